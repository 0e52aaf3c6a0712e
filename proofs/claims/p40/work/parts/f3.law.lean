/-! changes that may be refused, what was before: for undoing -/
/-- how a drawn change ends: done, or refused and all as before -/
def UO (x : Nat) (ls : Int → Int) (hs : Int) (l : Int → Int) (nx ct : Int) (kl : Int → Int → Int) (T k : Int) (hb : q_H) (v : Int) (h : q_H) : Prop :=
  (0 ≤ v ∧ v < 2147483648 ∧ ∃ l' nx' ct' kl' c' fa' kr' kd', HP l nx ct kl nx' ct' kl' ∧ PX x l' ls nx' ct' kl' 0 c' hs fa' kr' kd' hb (k + 1) h ∧ ∃ m, StR (T + 99) l' m) ∨
  (-3 < v ∧ v < 0 ∧ ∃ c' fa' kr' kd', PX x l ls nx ct kl 0 c' hs fa' kr' kd' hb (k + 1) h)
/-- what the ring keeps of the last p changes -/
def HU (T p nx ct : Int) (kl : Int → Int → Int) (F : Int → Int64) : Prop := p ≤ ct ∧ ∀ j, 0 ≤ j → j < p → (∃ m, StR T (kl (rix nx j)) m) ∧ F (p - 1 - j) = sumV (kl (rix nx j))
section F3
variable {E : q_E} {M : q_M} {h h' hb : q_H} {x N b : Nat} {l l' ls c m : Int → Int} {kl kl' : Int → Int → Int} {nx ct nx' ct' n hs fa kr kd_ k k' v y z r t i g w a e d T T' rv p j : Int} {rf : Int × Int} {o : Option (q_R × q_H)} {F : Int → Int64} {PP : Int → Int}
theorem uo_mu (D : MuP x l ls nx ct kl 0 c hs fa kr kd_ hb k rf v rv l' o ∧ (rf.1 = 0 → ∃ m', StR T' l' m')) (hv : rf.1 = 0 → RgC l' → 0 ≤ v ∧ v < 2147483648) (hrv : rv = -1 ∨ rv = -2) (hT0 : 0 ≤ T') (hT : T' ≤ T + 99) : ∃ v' h', o = some (.inl (some (.int (zi v'))), h') ∧ UO x ls hs l nx ct kl T k hb v' h' := by
  obtain ⟨D, S⟩ := D
  rcases D with ⟨d1, h', nx', ct', kl', d2, d3, d4⟩ | ⟨d1, h', d2, d3⟩
  · obtain ⟨m', S⟩ := S d1
    have hv := hv d1 (st_rg S)
    exact ⟨v, h', d2, Or.inl ⟨hv.1, hv.2, l', nx', ct', kl', _, _, _, _, d3, px_mo d4 (by omega), m', st_mono S hT hT0⟩⟩
  · exact ⟨rv, h', d2, Or.inr ⟨by omega, by omega, _, _, _, _, d3⟩⟩
theorem rfPln_T (hR : RgC l) (h : (rfPln l y z PP).1 = 0) : (rfGoa l y z).1 = 0 ∧ 1 ≤ fT l y z ∧ fT l y z ≤ 30 := by
  unfold rfPln at h
  by_cases c : (rfGoa l y z).1 = 0
  · rw [if_neg (not_not_intro c)] at h
    unfold rfFnd at h
    rcases fT_r (y := y) (z := z) hR with e | e
    · rw [if_pos e] at h
      exact absurd h (by decide)
    · exact ⟨c, e⟩
  · rw [if_pos c] at h
    exact absurd h c
theorem rix_0 (h : 0 ≤ nx ∧ nx < 8) : rix nx 0 = pvx nx := by
  unfold rix pvx
  split <;> split <;> omega
theorem rix_p (h : 0 ≤ nx ∧ nx < 8) (h0 : 0 ≤ j) (h1 : j < 7) : rix (pvx nx) j = rix nx (j + 1) := by
  unfold rix pvx
  split <;> split <;> split <;> omega
theorem hu_0 (h : 0 ≤ ct) : HU T 0 nx ct kl F := ⟨h, fun j a b => by omega⟩
theorem hu_mo (H : HU T p nx ct kl F) (h0 : 0 ≤ T) (h : T ≤ T') : HU T' p nx ct kl F := ⟨H.1, fun j a b => by
  obtain ⟨⟨m, s⟩, e⟩ := H.2 j a b
  exact ⟨⟨m, st_mono s h h0⟩, e⟩⟩
theorem hu_s (H : HU T p nx ct kl F) (hp : 0 ≤ p ∧ p < 7) (hn : 0 ≤ nx ∧ nx < 8) (hc : ct ≤ 8) (hS : StR T l m) (hP : HP l nx ct kl nx' ct' kl') : HU T (p + 1) nx' ct' kl' (uL F p (sumV l)) := by
  obtain ⟨H1, H2⟩ := H
  obtain ⟨e1, e2, lo, e3, e4⟩ := hP
  refine ⟨by omega, fun j a b => ?_⟩
  by_cases q : j = 0
  · have er : rix nx' j = nx := by
      rw [q, e1]
      unfold rix
      split <;> split <;> omega
    have ek : kl' (rix nx' j) = lo := by
      rw [er, e4]
      exact if_pos rfl
    rw [ek]
    refine ⟨⟨m, st_lc hS e3⟩, ?_⟩
    show (if p + 1 - 1 - j = p then sumV l else F (p + 1 - 1 - j)) = sumV lo
    rw [if_pos (by omega), sum_lc (st_rg hS) e3]
  · have er : rix nx' j = rix nx (j - 1) := by
      rw [e1]
      unfold rix
      split <;> split <;> split <;> omega
    have en : ¬ rix nx (j - 1) = nx := by
      unfold rix
      split <;> omega
    have ek : kl' (rix nx' j) = kl (rix nx (j - 1)) := by
      rw [er, e4]
      exact if_neg en
    rw [ek]
    obtain ⟨s, f⟩ := H2 (j - 1) (by omega) (by omega)
    refine ⟨s, ?_⟩
    show (if p + 1 - 1 - j = p then sumV l else F (p + 1 - 1 - j)) = _
    rw [if_neg (by omega), ← f]
    congr 1
    omega
theorem hu_u (H : HU T p nx ct kl F) (hp : 0 < p ∧ p ≤ 7) (hn : 0 ≤ nx ∧ nx < 8) : HU T (p - 1) (pvx nx) (ct - 1) kl F := by
  obtain ⟨H1, H2⟩ := H
  refine ⟨by omega, fun j a b => ?_⟩
  obtain ⟨s, f⟩ := H2 (j + 1) (by omega) (by omega)
  rw [rix_p hn a (by omega)]
  refine ⟨s, ?_⟩
  rw [← f]
  congr 1
  omega
theorem uo_la {nt : Nat} {c' : Int → Int} (D : LaP x l ls nx ct kl nt c' hs fa kr kd_ hb k o) (hn : nt ≤ 60) (hS : StR T l m) (hT0 : 0 ≤ T) : ∃ v' h', o = some (.inl (some (.int (zi v'))), h') ∧ UO x ls hs l nx ct kl T k hb v' h' := by
  rcases D with ⟨d1, h', nx', ct', kl', d2, d3, d4⟩ | ⟨d1, h', fa', d2, d3⟩
  · obtain ⟨_, s⟩ := st_lay (q := c') hS (N := nt) (by omega) fun i _ _ => rfl
    have s1 := (s d1).1
    have gR := st_rg s1
    have e : cs (lay c' nt (fpl c' nt (nt : Int).toNat 0 0 0 0).2.1 (fpl c' nt (nt : Int).toNat 0 0 0 0).2.2 l) = (fpl c' nt (nt : Int).toNat 0 0 0 0).2.1 * (fpl c' nt (nt : Int).toNat 0 0 0 0).2.2 := lay_cs (by omega) d1
    have g := rg_c gR
    rw [e] at g
    exact ⟨_, h', d2, Or.inl ⟨by omega, by omega, _, nx', ct', kl', _, _, _, _, d3, px_mo d4 (by omega), _, st_mono s1 (by omega) hT0⟩⟩
  · exact ⟨-1, h', d2, Or.inr ⟨by omega, by omega, _, _, _, _, d3⟩⟩
theorem U_add (P : PX x l ls nx ct kl 0 c hs fa kr kd_ hb k h) (hT : StR T l m) (hT0 : 0 ≤ T) (hy : 0 ≤ y ∧ y < 1000) (hz : 0 ≤ z ∧ z < 1000) : ∃ v' h', q_cl E q_m_L_add [.ref x, .int (zi y), .int (zi z)] h = some (.inl (some (.int (zi v'))), h') ∧ UO x ls hs l nx ct kl T k hb v' h' :=
  uo_mu (B_add P hT (by omega) (by omega) (by omega) (by omega)) (fun _ _ => by have := rg_r P.2.1; omega) (Or.inl rfl) hT0 (by omega)
theorem U_takeOff (P : PX x l ls nx ct kl 0 c hs fa kr kd_ hb k h) (hT : StR T l m) (hT0 : 0 ≤ T) (hy : 0 ≤ y ∧ y < 1000) : ∃ v' h', q_cl E q_m_L_takeOff [.ref x, .int (zi y)] h = some (.inl (some (.int (zi v'))), h') ∧ UO x ls hs l nx ct kl T k hb v' h' :=
  uo_mu (B_takeOff P hT (by omega) (by omega)) (fun q _ => by have := rg_r P.2.1; have q := (rfTak_0 q).1; have := q.1; have := q.2; omega) (Or.inl rfl) hT0 (by omega)
theorem U_order (P : PX x l ls nx ct kl 0 c hs fa kr kd_ hb k h) (hT : StR T l m) (hT0 : 0 ≤ T) (hd : 0 ≤ d ∧ d < 1000) (ha : -1 ≤ a ∧ a < 1000) (hw : -1 ≤ w ∧ w < 1000) (he : -1 ≤ e ∧ e < 1000) : ∃ v' h', q_cl E q_m_L_order [.ref x, .int (zi d), .int (zi a), .int (zi w), .int (zi e)] h = some (.inl (some (.int (zi v'))), h') ∧ UO x ls hs l nx ct kl T k hb v' h' :=
  uo_mu (B_order P hT (by omega) (by omega) (by omega) (by omega) (by omega) (by omega) (by omega) (by omega)) (fun _ _ => by have := rg_o P.2.1; omega) (Or.inl rfl) hT0 (by omega)
theorem U_assign (P : PX x l ls nx ct kl 0 c hs fa kr kd_ hb k h) (hT : StR T l m) (hT0 : 0 ≤ T) (hy : 0 ≤ y ∧ y < 1000) (hz : 0 ≤ z ∧ z < 1000) : ∃ v' h', q_cl E q_m_L_assign [.ref x, .int (zi y), .int (zi z)] h = some (.inl (some (.int (zi v'))), h') ∧ UO x ls hs l nx ct kl T k hb v' h' :=
  uo_mu (B_assign P hT (by omega) (by omega) (by omega) (by omega)) (fun q _ => by have := rg_a2 P.2.1 (rfAsg_0 q).1.2; omega) (Or.inl rfl) hT0 (by omega)
theorem U_release (P : PX x l ls nx ct kl 0 c hs fa kr kd_ hb k h) (hT : StR T l m) (hT0 : 0 ≤ T) (hy : 0 ≤ y ∧ y < 1000) : ∃ v' h', q_cl E q_m_L_release [.ref x, .int (zi y)] h = some (.inl (some (.int (zi v'))), h') ∧ UO x ls hs l nx ct kl T k hb v' h' :=
  uo_mu (B_release P hT (by omega) (by omega)) (fun q _ => by have q := rfRel_0 q; have := rg_b2 P.2.1 q.1; have := rg_o P.2.1; omega) (Or.inr rfl) hT0 (by omega)
theorem U_close (P : PX x l ls nx ct kl 0 c hs fa kr kd_ hb k h) (hT : StR T l m) (hT0 : 0 ≤ T) (hy : 0 ≤ y ∧ y < 1000) : ∃ v' h', q_cl E q_m_L_close [.ref x, .int (zi y)] h = some (.inl (some (.int (zi v'))), h') ∧ UO x ls hs l nx ct kl T k hb v' h' :=
  uo_mu (B_close P hT (by omega) (by omega)) (fun _ q => by have := rg_n7 q; omega) (Or.inl rfl) hT0 (by omega)
theorem U_open (P : PX x l ls nx ct kl 0 c hs fa kr kd_ hb k h) (hT : StR T l m) (hT0 : 0 ≤ T) (hy : 0 ≤ y ∧ y < 1000) : ∃ v' h', q_cl E q_m_L_open [.ref x, .int (zi y)] h = some (.inl (some (.int (zi v'))), h') ∧ UO x ls hs l nx ct kl T k hb v' h' :=
  uo_mu (B_open P hT (by omega) (by omega)) (fun _ q => by have := rg_n7 q; omega) (Or.inl rfl) hT0 (by omega)
theorem U_set (hE : q_EN E x) (P : PX x l ls nx ct kl 0 c hs fa kr kd_ hb k h) (hT : StR T l m) (hT0 : 0 ≤ T) (hy : 0 ≤ y ∧ y < 1000) (hz : 0 ≤ z ∧ z < 1000) : ∃ v' h', q_cl E q_m_L_set [.ref x, .int (zi y), .int (zi z)] h = some (.inl (some (.int (zi v'))), h') ∧ UO x ls hs l nx ct kl T k hb v' h' :=
  uo_mu (B_set P hT hE (by omega) (by omega) (by omega) (by omega)) (fun q _ => by
    have q := (rfSet_0 q).1
    have g5 := rg_n14 P.2.1
    have g6 := rg_n15 P.2.1
    have g7 := rg_n16 P.2.1
    rcases (by omega : y = 0 ∨ y = 1 ∨ y = 2) with e | e | e
    · rw [e, show (5 : Int) + 0 = 5 by omega]; omega
    · rw [e, show (5 : Int) + 1 = 6 by omega]; omega
    · rw [e, show (5 : Int) + 2 = 7 by omega]; omega) (Or.inl rfl) hT0 (by omega)
theorem U_plan (P : PX x l ls nx ct kl 0 c hs fa kr kd_ hb k h) (hT : StR T l m) (hT0 : 0 ≤ T) (hy : 0 ≤ y ∧ y < 1000) (hz : 0 ≤ z ∧ z < 1000) : ∃ v' h', q_cl E q_m_L_plan [.ref x, .int (zi y), .int (zi z)] h = some (.inl (some (.int (zi v'))), h') ∧ UO x ls hs l nx ct kl T k hb v' h' := by
  obtain ⟨PP, _, D⟩ := B_plan (E := E) (y := y) (z := z) P hT (by omega) (by omega) (by omega) (by omega)
  exact uo_mu D (fun q _ => by have := (rfPln_T P.2.1 q).2; omega) (Or.inl rfl) hT0 (by omega)
theorem U_cancel (P : PX x l ls nx ct kl 0 c hs fa kr kd_ hb k h) (hT : StR T l m) (hT0 : 0 ≤ T) (hy : 0 ≤ y ∧ y < 1000) : ∃ v' h', q_cl E q_m_L_cancel [.ref x, .int (zi y)] h = some (.inl (some (.int (zi v'))), h') ∧ UO x ls hs l nx ct kl T k hb v' h' :=
  uo_mu (B_cancel P hT (by omega) (by omega)) (fun q _ => by have := rg_b3 P.2.1 (rfCan_0 q).1; omega) (Or.inl rfl) hT0 (by omega)
theorem U_pass (P : PX x l ls nx ct kl 0 c hs fa kr kd_ hb k h) (hT : StR T l m) (hT0 : 0 ≤ T) (hT1 : T ≤ 80000) (hy : 0 ≤ y ∧ y < 100) : ∃ v' h', q_cl E q_m_L_pass [.ref x, .int (zi y)] h = some (.inl (some (.int (zi v'))), h') ∧ UO x ls hs l nx ct kl T k hb v' h' :=
  uo_mu (B_pass P hT hT0 (by omega) (by omega) (by omega)) (fun _ _ => by have := psV_r y.toNat T l m 0 hT hT0 (by omega); omega) (Or.inl rfl) (by omega) (by omega)
end F3
