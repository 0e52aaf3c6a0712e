/-! the class's row l and the reference's row m: what lives in them agrees -/
def Sm (l m : Int → Int) : Prop := (∀ i, 0 ≤ i → i < 8 → l i = m i) ∧ (∀ c, isC m c → l (8 + c) = m (8 + c) ∧ l (56 + c) = m (56 + c)) ∧ (∀ r, isR m r → (∀ j, 0 ≤ j → j < 6 → rb l r j = rb m r j) ∧ ∀ t, 0 ≤ t → t < rb m r 3 → rb l r (6 + t) = rb m r (6 + t)) ∧ ∀ o, isO m o → ∀ k, 0 ≤ k → k < 8 → k ≠ 3 → ob l o k = ob m o k
/-- the class's closed cells are bits -/
def CB (l : Int → Int) : Prop := ∀ k, 0 ≤ k → k < 48 → 0 ≤ l (56 + k) ∧ l (56 + k) ≤ 1
section PA
variable {l m : Int → Int} {c w r o t a b i x ro g fr to T : Int}
theorem sm_cs (hS : Sm l m) : cs l = cs m := cs_cg (hS.1 0 (by omega) (by omega)) (hS.1 1 (by omega) (by omega))
theorem sm_bes (hS : Sm l m) (c w : Int) : bes l c w = bes m c w := bes_cg (hS.1 0 (by omega) (by omega)) (hS.1 1 (by omega) (by omega)) c w
theorem sm_3 (hS : Sm l m) : l 3 = m 3 := hS.1 3 (by omega) (by omega)
theorem sm_4 (hS : Sm l m) : l 4 = m 4 := hS.1 4 (by omega) (by omega)
theorem sm_C (hS : Sm l m) : isC l c ↔ isC m c := by unfold isC; rw [sm_cs hS]
theorem sm_R (hS : Sm l m) : isR l r ↔ isR m r := by unfold isR; rw [sm_3 hS]
theorem sm_O (hS : Sm l m) : isO l o ↔ isO m o := by unfold isO; rw [sm_4 hS]
theorem sm_ent (hS : Sm l m) (hc : isC m c) : ent l c ↔ ent m c := by
  obtain ⟨a, b⟩ := hS.2.1 c hc
  unfold ent
  rw [a, b]
theorem sm_k (hS : Sm l m) (hc : isC m c) : l (8 + c) = m (8 + c) := (hS.2.1 c hc).1
theorem sm_cl (hS : Sm l m) (hc : isC m c) : l (56 + c) = m (56 + c) := (hS.2.1 c hc).2
theorem sm_rb (hS : Sm l m) (hr : isR m r) (h0 : 0 ≤ i) (h1 : i < 6) : rb l r i = rb m r i := (hS.2.2.1 r hr).1 i h0 h1
theorem sm_ob (hS : Sm l m) (ho : isO m o) (h0 : 0 ≤ i) (h1 : i < 8) (h3 : i ≠ 3) : ob l o i = ob m o i := hS.2.2.2 o ho i h0 h1 h3
theorem sm_ahd (hS : Sm l m) (hR : RgC m) (hr : isR m r) (ht : 0 ≤ t) : ahd l r t = ahd m r t := by
  have h3 := (rgc_r hR hr).2.2.2.1
  have e0 := sm_rb (i := 0) hS hr (by omega) (by omega)
  have e3 := sm_rb (i := 3) hS hr (by omega) (by omega)
  have ep := (hS.2.2.1 r hr).2
  unfold ahd ahf
  rw [e0, e3]
  by_cases z : t = 0 ∨ rb m r 3 = 0
  · rw [if_pos z, if_pos z]
  · rw [if_neg z, if_neg z]
    have := ep ((if t > rb m r 3 then rb m r 3 else t) - 1) (by split <;> omega) (by split <;> omega)
    rw [show 6 + ((if t > rb m r 3 then rb m r 3 else t) - 1) = 6 + (if t > rb m r 3 then rb m r 3 else t) - 1 by omega] at this
    exact this
theorem sm_rin (hS : Sm l m) (hR : RgC m) (ht : 0 ≤ t) : rin l c t = rin m c t := by
  unfold rin
  rw [sm_3 hS]
  exact fnd_cg fun i a b => by rw [sm_ahd hS hR ⟨a, by omega⟩ ht]
theorem sm_okR (hS : Sm l m) (hR : RgC m) (hr : isR m r) (ht : 0 ≤ t) : okR l ro fr to t r ↔ okR m ro fr to t r := by
  unfold okR
  rw [sm_ahd hS hR hr ht, sm_ahd hS hR hr (show 0 ≤ t + 1 by omega)]
theorem sm_mgo (hS : Sm l m) (hR : RgC m) (hc : isC m to) (ht : 0 ≤ t) : mgo l ro fr to t ↔ mgo m ro fr to t := by
  unfold mgo
  rw [sm_3 hS]
  refine and_congr (sm_ent hS hc) ⟨fun h r a b => (sm_okR hS hR ⟨a, b⟩ ht).mp (h r a b), fun h r a b => (sm_okR hS hR ⟨a, b⟩ ht).mpr (h r a b)⟩
theorem sm_rea (hS : Sm l m) (hR : RgC m) (hr : isR m ro) : ∀ (n : Nat) (c : Int), rea l ro n c ↔ rea m ro n c
  | 0, c => by
    show c = rb l ro 0 ↔ c = rb m ro 0
    rw [sm_rb hS hr (by omega) (by omega)]
  | n + 1, c => by
    show (isC l c ∧ ∃ w, (0 ≤ w ∧ w ≤ 4) ∧ 0 ≤ bes l c w ∧ rea l ro n (bes l c w) ∧ mgo l ro (bes l c w) c n) ↔ (isC m c ∧ ∃ w, (0 ≤ w ∧ w ≤ 4) ∧ 0 ≤ bes m c w ∧ rea m ro n (bes m c w) ∧ mgo m ro (bes m c w) c n)
    rw [sm_C hS]
    refine and_congr_right fun hc => ?_
    constructor
    · rintro ⟨w, h1, h2, h3, h4⟩
      rw [sm_bes hS] at h2 h3 h4
      exact ⟨w, h1, h2, (sm_rea hS hR hr n _).mp h3, (sm_mgo hS hR hc (by omega)).mp h4⟩
    · rintro ⟨w, h1, h2, h3, h4⟩
      refine ⟨w, h1, ?_, ?_, ?_⟩
      · rw [sm_bes hS]; exact h2
      · rw [sm_bes hS]; exact (sm_rea hS hR hr n _).mpr h3
      · rw [sm_bes hS]; exact (sm_mgo hS hR hc (by omega)).mpr h4
theorem bfd_cg {P P' : Int → Prop} : ∀ {n : Nat}, (∀ i : Int, 0 ≤ i → i < n → (P i ↔ P' i)) → bfd P n = bfd P' n
  | 0, _ => rfl
  | n + 1, h => by
    by_cases q : P n
    · rw [bfd_t q, bfd_t ((h n (by omega) (by omega)).mp q)]
    · rw [bfd_f q, bfd_f (fun x => q ((h n (by omega) (by omega)).mpr x))]
      exact bfd_cg (fun i a b => h i a (by omega))
theorem sm_lti (hS : Sm l m) (hR : RgC m) (hr : isR m r) : lti (rb l r) g = lti (rb m r) g := by
  have h3 := (rgc_r hR hr).2.2.2.1
  have e3 := sm_rb (i := 3) hS hr (by omega) (by omega)
  have e (t : Int) (ht : 0 ≤ t) : ahf (rb l r) t = ahf (rb m r) t := sm_ahd hS hR hr ht
  have eb : bfd (fun t => ahf (rb l r) t = g) (rb m r 3 + 1).toNat = bfd (fun t => ahf (rb m r) t = g) (rb m r 3 + 1).toNat := bfd_cg fun i a b => by rw [e i a]
  unfold lti
  rw [e3, e _ h3.1, eb]
theorem sm_gtF (hS : Sm l m) (hR : RgC m) : ∀ (n : Nat) (k x : Int), 0 ≤ k → k + n = m 3 → gtF l ro g n k x = gtF m ro g n k x
  | 0, _, _, _, _ => rfl
  | n + 1, k, x, h0, h1 => by
    show gtF l ro g n (k + 1) (if k = ro then x else max x (lti (rb l k) g)) = gtF m ro g n (k + 1) (if k = ro then x else max x (lti (rb m k) g))
    rw [sm_lti hS hR ⟨h0, by omega⟩]
    exact sm_gtF hS hR n (k + 1) _ (by omega) (by omega)
theorem sm_gtu (hS : Sm l m) (hR : RgC m) : gtu l ro g = gtu m ro g := by
  unfold gtu
  rw [sm_3 hS]
  have g3 := hR.2.2.2.1
  exact sm_gtF hS hR _ _ _ (by omega) (by omega)
theorem sm_fT (hS : Sm l m) (hR : RgC m) (hr : isR m ro) : fT l ro g = fT m ro g := by
  unfold fT
  rw [hS.1 7 (by omega) (by omega), sm_gtu hS hR]
  exact fnd_cg fun i _ _ => and_congr (sm_rea hS hR hr _ _) Iff.rfl
theorem sm_bfw (hS : Sm l m) (hR : RgC m) (hc : isC m c) (X : BX) : bfw l c w X = bfw m c w X := by
  have hb := besC_r (w := w) hR hc
  unfold bfw
  rw [sm_bes hS]
  by_cases z : 0 ≤ bes m c w
  · have : (0 ≤ bes m c w ∧ X.1 (bes m c w) < 0 ∧ ent l (bes m c w)) ↔ (0 ≤ bes m c w ∧ X.1 (bes m c w) < 0 ∧ ent m (bes m c w)) := and_congr_right fun _ => and_congr_right fun _ => sm_ent hS ⟨z, by omega⟩
    by_cases y : 0 ≤ bes m c w ∧ X.1 (bes m c w) < 0 ∧ ent m (bes m c w)
    · rw [if_pos y, if_pos (this.mpr y)]
    · rw [if_neg y, if_neg (fun x => y (this.mp x))]
  · rw [if_neg (fun x => z x.1), if_neg (fun x => z x.1)]
theorem sm_bfr (hS : Sm l m) (hR : RgC m) (hc : isC m c) : ∀ (n : Nat) (w : Int) (X : BX), bfr l c n w X = bfr m c n w X
  | 0, _, _ => rfl
  | n + 1, w, X => by
    show bfr l c n (w + 1) (bfw l c w X) = bfr m c n (w + 1) (bfw m c w X)
    rw [sm_bfw hS hR hc, sm_bfr hS hR hc n]
theorem sm_bfl (hS : Sm l m) (hR : RgC m) : ∀ (n : Nat) (k : Int) (X : BX), 0 ≤ k → Binv m X → bfl l n k X = bfl m n k X
  | 0, _, _, _, _ => rfl
  | n + 1, k, X, h0, hB => by
    show (if k < X.2.2 then bfl l n (k + 1) (bfr l (X.2.1 k) 4 0 X) else X) = if k < X.2.2 then bfl m n (k + 1) (bfr m (X.2.1 k) 4 0 X) else X
    by_cases z : k < X.2.2
    · rw [if_pos z, if_pos z]
      have hc := (hB.2.1 k h0 z).1
      rw [sm_bfr hS hR hc]
      exact sm_bfl hS hR n (k + 1) _ (by omega) (bfr_ok (fun w => besC_r (w := w) hR hc) h0 4 0 X hB z rfl).1
    · rw [if_neg z, if_neg z]
theorem sm_far (hS : Sm l m) (hR : RgC m) (ha : isC m a) : far l a = far m a := by
  unfold far
  rw [sm_bfl hS hR 48 0 (bf0 a) (by omega) (bf0_ok ha)]
theorem sm_dst (hS : Sm l m) (hR : RgC m) (ha : isC m a) : dst l a b = dst m a b := (dst_cg hR (hS.1 0 (by omega) (by omega)).symm (hS.1 1 (by omega) (by omega)).symm (fun c hc => (sm_ent hS hc).symm) ha).symm
theorem lpI_cg {f f' : Int → Int → Int} : ∀ {n : Nat} {k x : Int}, (∀ i y, k ≤ i → i < k + n → f i y = f' i y) → lpI f n k x = lpI f' n k x
  | 0, _, _, _ => rfl
  | n + 1, k, x, h => by
    show lpI f n (k + 1) (f k x) = lpI f' n (k + 1) (f' k x)
    rw [h k x (by omega) (by omega)]
    exact lpI_cg fun i y a b => h i y (by omega) (by omega)
theorem sm_nbC (hS : Sm l m) (hR : RgC m) (hc : isC m c) : nbC l c = nbC m c := by
  unfold nbC
  refine lpI_cg fun i y a b => ?_
  have hb := besC_r (w := i) hR hc
  have : nbE l c i ↔ nbE m c i := by
    unfold nbE
    rw [sm_bes hS]
    exact and_congr_right fun z => sm_ent hS ⟨z, by omega⟩
  show y + bI (nbE l c i) = y + bI (nbE m c i)
  rw [bI_c this]
theorem sm_rwo (hS : Sm l m) : rwo l o = rwo m o := by
  unfold rwo
  rw [sm_3 hS]
  exact fnd_cg fun i a b => by rw [sm_rb hS ⟨a, by omega⟩ (by omega) (by omega)]
theorem sm_stc (hS : Sm l m) : stc l o = stc m o := by
  unfold stc
  rw [sm_rwo hS]
  have : (isO l o ∧ ¬ ob l o 4 = -1) ↔ (isO m o ∧ ¬ ob m o 4 = -1) := by
    rw [sm_O hS]
    exact and_congr_right fun ho => by rw [sm_ob hS ho (by omega) (by omega) (by omega)]
  by_cases z : isO m o ∧ ¬ ob m o 4 = -1
  · rw [if_pos z, if_pos (this.mpr z)]
  · rw [if_neg z, if_neg (fun x => z (this.mp x))]
theorem sm_oin (hS : Sm l m) : oin l x = oin m x := by
  unfold oin
  rw [sm_4 hS]
  exact lpI_cg fun i y a b => by rw [sm_stc hS]
theorem sm_rkb (hS : Sm l m) (ha : isO m a) (hb : isO m b) : rkb l a b ↔ rkb m a b := by
  unfold rkb
  rw [sm_ob hS ha (i := 0) (by omega) (by omega) (by omega), sm_ob hS ha (i := 1) (by omega) (by omega) (by omega), sm_ob hS ha (i := 2) (by omega) (by omega) (by omega), sm_ob hS hb (i := 0) (by omega) (by omega) (by omega), sm_ob hS hb (i := 1) (by omega) (by omega) (by omega), sm_ob hS hb (i := 2) (by omega) (by omega) (by omega)]
theorem sm_wbf (hS : Sm l m) (ho : isO m o) : wbf l o = wbf m o := by
  unfold wbf
  rw [sm_4 hS]
  refine lpI_cg fun i y a b => ?_
  show y + bI (stc l i = 0 ∧ rkb l i o) = y + bI (stc m i = 0 ∧ rkb m i o)
  rw [bI_c (and_congr (by rw [sm_stc hS]) (sm_rkb hS ⟨a, by omega⟩ ho))]
theorem sm_wor (hS : Sm l m) : wor l x = wor m x := by
  unfold wor
  rw [sm_4 hS]
  exact fnd_cg fun i a b => by rw [sm_stc hS, sm_wbf hS ⟨a, by omega⟩]
theorem sm_ldd (hS : Sm l m) (hR : RgC m) (hr : isR m r) : (isO l (rb l r 2) ∧ 0 < ob l (rb l r 2) 2) ↔ (isO m (rb m r 2) ∧ 0 < ob m (rb m r 2) 2) := by
  rw [sm_rb hS hr (by omega) (by omega), sm_O hS]
  exact and_congr_right fun ho => by rw [sm_ob hS ho (by omega) (by omega) (by omega)]
theorem sm_ldn (hS : Sm l m) (hR : RgC m) : ldn l = ldn m := by
  unfold ldn
  rw [sm_3 hS]
  exact lpI_cg fun i y a b => by rw [bI_c (sm_ldd hS hR ⟨a, by omega⟩)]
theorem sm_sts (hS : Sm l m) (h0 : 0 ≤ w) (h1 : w < 6) : sts l w = sts m w := by
  unfold sts
  rw [sm_3 hS]
  exact lpI_cg fun i y a b => by rw [sm_rb hS ⟨a, by omega⟩ h0 h1]
theorem sm_pks (hS : Sm l m) : pks l = pks m := by
  unfold pks
  rw [sm_4 hS]
  exact lpI_cg fun i y a b => by rw [sm_ob hS ⟨a, by omega⟩ (by omega) (by omega) (by omega)]
theorem sm_lts (hS : Sm l m) : lts l = lts m := by
  unfold lts
  rw [sm_4 hS]
  exact lpI_cg fun i y a b => by rw [sm_ob hS (o := i) (i := 4) ⟨a, by omega⟩ (by omega) (by omega) (by omega), sm_ob hS (o := i) (i := 0) ⟨a, by omega⟩ (by omega) (by omega) (by omega)]
theorem sm_ccl (hS : Sm l m) : ccl l = ccl m := by
  unfold ccl
  rw [sm_cs hS]
  exact lpI_cg fun i y a b => by rw [sm_cl hS ⟨a, by omega⟩]
theorem sm_rch (hS : Sm l m) (hR : RgC m) (ha : isC m a) : rch l a = rch m a := by
  unfold rch
  rw [sm_far hS hR ha]
theorem sm_frt (hS : Sm l m) (hR : RgC m) (ha : isC m a) : frt l a = frt m a := by
  have e (y : Int) : frs l a y = frs m a y := by
    unfold frs
    rw [sm_far hS hR ha]
    by_cases z : isC m y
    · rw [if_pos z, if_pos ((sm_C hS).mpr z)]
    · rw [if_neg z, if_neg (fun x => z ((sm_C hS).mp x))]
  unfold frt
  rw [sm_far hS hR ha]
  exact lpI_cg fun i y a b => by rw [e]
theorem sm_brC (hS : Sm l m) (hR : RgC m) (hk : isR m r) (hb : b = -1 ∨ isR m b) : brC l g r b x ↔ brC m g r b x := by
  have hc := (rgc_r hR hk).1
  unfold brC btr
  rw [sm_rb hS hk (i := 2) (by omega) (by omega), sm_rb hS hk (i := 0) (by omega) (by omega), sm_far hS hR hc, sm_rb hS hk (i := 1) (by omega) (by omega)]
  rcases hb with hb | hb
  · exact and_congr_right fun _ => and_congr_right fun _ => ⟨fun _ => .inl hb, fun _ => .inl hb⟩
  · rw [sm_rb hS hb (i := 1) (by omega) (by omega)]
theorem sm_brf (hS : Sm l m) (hR : RgC m) : ∀ (n : Nat) (k b x : Int), 0 ≤ k → k + n = m 3 → (b = -1 ∨ isR m b) → brf l g n k b x = brf m g n k b x
  | 0, _, _, _, _, _, _ => rfl
  | n + 1, k, b, x, h0, h1, hb => by
    have hk : isR m k := ⟨h0, by omega⟩
    show (if brC l g k b x then brf l g n (k + 1) k (far l (rb l k 0) g) else brf l g n (k + 1) b x) = if brC m g k b x then brf m g n (k + 1) k (far m (rb m k 0) g) else brf m g n (k + 1) b x
    by_cases z : brC m g k b x
    · rw [if_pos z, if_pos ((sm_brC hS hR hk hb).mpr z), sm_rb hS hk (i := 0) (by omega) (by omega), sm_far hS hR (rgc_r hR hk).1]
      exact sm_brf hS hR n (k + 1) k _ (by omega) (by omega) (.inr hk)
    · rw [if_neg z, if_neg (fun y => z ((sm_brC hS hR hk hb).mp y))]
      exact sm_brf hS hR n (k + 1) b _ (by omega) (by omega) hb
theorem sm_suiV (hS : Sm l m) (hR : RgC m) (ho : isO m o) : suiV l o = suiV m o := by
  unfold suiV
  have g3 := hR.2.2.2.1
  rw [sm_3 hS, sm_ob hS ho (by omega) (by omega) (by omega)]
  exact sm_brf hS hR _ _ _ _ (by omega) (by omega) (.inl rfl)
theorem sm_nst (hS : Sm l m) (hR : RgC m) (ha : isC m a) : nst l a = nst m a := by
  unfold nst
  rw [sm_far hS hR ha, sm_cs hS]
  exact lpI_cg fun i y a b => by rw [sm_k hS (c := i) ⟨a, by omega⟩]
theorem sm_thr (hS : Sm l m) (hR : RgC m) (ho : isO m o) : ∀ (n : Nat) (i a x : Int), 0 ≤ i → i + n = ob m o 1 → isC m a → thr l (ob l o) n i a x = thr m (ob m o) n i a x
  | 0, _, a, x, _, _, ha => by
    show (if nst l a = -1 then -1 else x + nst l a) = if nst m a = -1 then -1 else x + nst m a
    rw [sm_nst hS hR ha]
  | n + 1, i, a, x, h0, h1, ha => by
    obtain ⟨q0, q1, q2, q4, q5, q6⟩ := rgc_o hR ho
    have hl := q6 i h0 (by omega)
    have hl2 := q5 i h0 (by omega)
    show (if far l a (ob l o (5 + i)) = -1 then -1 else thr l (ob l o) n (i + 1) (ob l o (5 + i)) (x + far l a (ob l o (5 + i)))) = if far m a (ob m o (5 + i)) = -1 then -1 else thr m (ob m o) n (i + 1) (ob m o (5 + i)) (x + far m a (ob m o (5 + i)))
    rw [sm_ob hS ho (i := 5 + i) (by omega) (by omega) (by omega), sm_far hS hR ha, sm_thr hS hR ho n (i + 1) _ _ (by omega) (by omega) ⟨hl, hl2.2⟩]
theorem sm_touV (hS : Sm l m) (hR : RgC m) (ho : isO m o) : touV l o = touV m o := by
  obtain ⟨q0, q1, q2, q4, q5, q6⟩ := rgc_o hR ho
  have hl := q6 0 (by omega) (by omega)
  have hl2 := q5 0 (by omega) (by omega)
  unfold touV
  rw [sm_ob hS ho (i := 1) (by omega) (by omega) (by omega), sm_ob hS ho (i := 5) (by omega) (by omega) (by omega)]
  exact sm_thr hS hR ho _ _ _ _ (by omega) (by omega) ⟨hl, hl2.2⟩
theorem sm_stp (hS : Sm l m) (hR : RgC m) (hr : isR m r) : stp l r = stp m r := by
  unfold stp
  rw [hS.1 6 (by omega) (by omega)]
  have := sm_ldd hS hR hr
  by_cases z : isO m (rb m r 2) ∧ 0 < ob m (rb m r 2) 2
  · rw [if_pos z, if_pos (this.mpr z)]
  · rw [if_neg z, if_neg (fun x => z (this.mp x))]
theorem sm_tb (hS : Sm l m) (h : TB0 T m) : TB0 T l := by
  obtain ⟨h1, h2, h3⟩ := h
  refine ⟨by rw [hS.1 2 (by omega) (by omega)]; exact h1, fun r a b => ?_, fun o a b => ?_⟩
  · have hr : isR m r := (sm_R hS).mp ⟨a, b⟩
    rw [sm_rb hS hr (by omega) (by omega), sm_rb hS hr (by omega) (by omega)]
    exact h2 r hr.1 hr.2
  · have ho : isO m o := (sm_O hS).mp ⟨a, b⟩
    rw [sm_ob hS ho (by omega) (by omega) (by omega)]
    exact h3 o ho.1 ho.2
theorem sm_rg (hS : Sm l m) (hC : CB l) (hR : RgC m) : RgC l := by
  obtain ⟨g0, g1, g2, g3, g4, gc, g5, g6, g7, gk, gl, gr, go⟩ := hR
  have e (i : Int) (a : 0 ≤ i) (b : i < 8) := hS.1 i a b
  unfold RgC
  rw [sm_cs hS, e 0 (by omega) (by omega), e 1 (by omega) (by omega), e 2 (by omega) (by omega), e 3 (by omega) (by omega), e 4 (by omega) (by omega), e 5 (by omega) (by omega), e 6 (by omega) (by omega), e 7 (by omega) (by omega)]
  refine ⟨g0, g1, g2, g3, g4, gc, g5, g6, g7, fun k a b => by rw [sm_k hS ⟨a, b⟩]; exact gk k a b, hC, fun r a b => ?_, fun o a b => ?_⟩
  · obtain ⟨q0, q1, q2, q3, q4, q5, q6⟩ := gr r a b
    unfold Rf
    rw [sm_rb hS ⟨a, b⟩ (i := 0) (by omega) (by omega), sm_rb hS ⟨a, b⟩ (i := 1) (by omega) (by omega), sm_rb hS ⟨a, b⟩ (i := 2) (by omega) (by omega), sm_rb hS ⟨a, b⟩ (i := 3) (by omega) (by omega), sm_rb hS ⟨a, b⟩ (i := 4) (by omega) (by omega), sm_rb hS ⟨a, b⟩ (i := 5) (by omega) (by omega)]
    exact ⟨q0, q1, q2, q3, q4, q5, fun t c d => by rw [(hS.2.2.1 r ⟨a, b⟩).2 t c d]; exact q6 t c d⟩
  · obtain ⟨q0, q1, q2, q4, q5, q6⟩ := go o a b
    unfold Of
    rw [sm_ob hS ⟨a, b⟩ (i := 0) (by omega) (by omega) (by omega), sm_ob hS ⟨a, b⟩ (i := 1) (by omega) (by omega) (by omega), sm_ob hS ⟨a, b⟩ (i := 2) (by omega) (by omega) (by omega), sm_ob hS ⟨a, b⟩ (i := 4) (by omega) (by omega) (by omega)]
    exact ⟨q0, q1, q2, q4, fun t c d => by rw [sm_ob hS ⟨a, b⟩ (by omega) (by omega) (by omega)]; exact q5 t c d, fun t c d => by rw [sm_ob hS ⟨a, b⟩ (by omega) (by omega) (by omega)]; exact q6 t c d⟩
end PA
