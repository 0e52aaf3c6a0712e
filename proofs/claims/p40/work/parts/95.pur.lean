/-! readers of both sides answer alike, third: orders that wait; the planner -/
section PD
variable {l m : Int → Int} {P Q : Int → Prop} {c w r o t a b i x y z ro g fr to T ct k : Int} {n : Nat}
noncomputable def cnt (P : Int → Prop) (n : Nat) (k : Int) : Int := lpI (fun k a => a + bI (P k)) n k 0
theorem cnt_x : ∀ (n : Nat) (k x : Int), lpI (fun k a => a + bI (P k)) n k x = x + cnt P n k
  | 0, _, x => (Int.add_zero x).symm
  | n + 1, k, x => by
    show lpI (fun k a => a + bI (P k)) n (k + 1) (x + bI (P k)) = x + lpI (fun k a => a + bI (P k)) n (k + 1) (0 + bI (P k))
    rw [cnt_x n (k + 1), cnt_x n (k + 1) (0 + bI (P k))]
    omega
theorem cnt_s : cnt P (n + 1) k = bI (P k) + cnt P n (k + 1) := by
  show lpI (fun k a => a + bI (P k)) n (k + 1) (0 + bI (P k)) = _
  rw [cnt_x]
  omega
theorem cnt_r : ∀ (n : Nat) (k : Int), 0 ≤ cnt P n k ∧ cnt P n k ≤ n
  | 0, _ => ⟨Int.le_refl 0, Int.le_refl 0⟩
  | n + 1, k => by
    have h1 := cnt_r n (k + 1)
    have h2 := bI_r (P k)
    rw [cnt_s]
    omega
theorem cnt_le : ∀ (n : Nat) (k : Int), (∀ i, k ≤ i → i < k + n → P i → Q i) → cnt P n k ≤ cnt Q n k
  | 0, _, _ => Int.le_refl 0
  | n + 1, k, h => by
    rw [cnt_s, cnt_s]
    have h1 := cnt_le n (k + 1) fun i a b => h i (by omega) (by omega)
    have h2 := bI_r (Q k)
    by_cases z : P k
    · rw [bI_t z, bI_t (h k (by omega) (by omega) z)]; omega
    · rw [bI_f z]; omega
theorem cnt_lt : ∀ (n : Nat) (k : Int), (∀ i, k ≤ i → i < k + n → P i → Q i) → (k ≤ x ∧ x < k + n) → Q x → ¬ P x → cnt P n k < cnt Q n k
  | 0, _, _, hx, _, _ => by omega
  | n + 1, k, h, hx, hq, hp => by
    rw [cnt_s, cnt_s]
    by_cases e : x = k
    · rw [← e, bI_t hq, bI_f hp]
      have h1 := cnt_le (P := P) (Q := Q) n (x + 1) fun i a b => h i (by omega) (by omega)
      omega
    · have h1 := cnt_lt n (k + 1) (fun i a b => h i (by omega) (by omega)) (by omega) hq hp
      have h2 := bI_r (Q k)
      by_cases z : P k
      · rw [bI_t z, bI_t (h k (by omega) (by omega) z)]; omega
      · rw [bI_f z]; omega
theorem cnt_en : ∀ (n : Nat) (k : Int), ∃ e : Nat → Int, (∀ j : Nat, (j : Int) < cnt P n k → (k ≤ e j ∧ e j < k + n) ∧ P (e j)) ∧ ∀ i j : Nat, (i : Int) < cnt P n k → (j : Int) < cnt P n k → e i = e j → i = j
  | 0, k => ⟨fun _ => 0, fun j h => absurd h (by show ¬ (j : Int) < 0; omega), fun i j h => absurd h (by show ¬ (i : Int) < 0; omega)⟩
  | n + 1, k => by
    obtain ⟨e, h1, h2⟩ := cnt_en n (k + 1)
    rw [cnt_s]
    by_cases z : P k
    · rw [bI_t z]
      refine ⟨fun j => if j = 0 then k else e (j - 1), fun j hj => ?_, fun i j hi hj he => ?_⟩
      · by_cases q : j = 0
        · show (k ≤ (if j = 0 then k else e (j - 1)) ∧ (if j = 0 then k else e (j - 1)) < k + ((n + 1 : Nat) : Int)) ∧ P (if j = 0 then k else e (j - 1))
          rw [if_pos q]
          exact ⟨by omega, z⟩
        · show (k ≤ (if j = 0 then k else e (j - 1)) ∧ (if j = 0 then k else e (j - 1)) < k + ((n + 1 : Nat) : Int)) ∧ P (if j = 0 then k else e (j - 1))
          rw [if_neg q]
          have := h1 (j - 1) (by omega)
          exact ⟨by omega, this.2⟩
      · have he : (if i = 0 then k else e (i - 1)) = if j = 0 then k else e (j - 1) := he
        by_cases qi : i = 0
        · by_cases qj : j = 0
          · omega
          · rw [if_pos qi, if_neg qj] at he
            have := h1 (j - 1) (by omega)
            omega
        · by_cases qj : j = 0
          · rw [if_neg qi, if_pos qj] at he
            have := h1 (i - 1) (by omega)
            omega
          · rw [if_neg qi, if_neg qj] at he
            have := h2 (i - 1) (j - 1) (by omega) (by omega) he
            omega
    · rw [bI_f z, Int.zero_add]
      exact ⟨e, fun j hj => by have := h1 j hj; exact ⟨by omega, this.2⟩, h2⟩
theorem lst_n : ∀ (n : Nat) (k x : Int), (∀ j, k ≤ j → j < k + n → ¬ P j) → @lpI (fun k a => @ite _ (P k) (Classical.propDecidable _) k a) n k x = x
  | 0, _, _, _ => rfl
  | n + 1, k, x, h => by
    show lpI _ n (k + 1) (@ite _ (P k) (Classical.propDecidable _) k x) = x
    rw [if_neg (h k (by omega) (by omega))]
    exact lst_n n (k + 1) x fun j a b => h j (by omega) (by omega)
theorem lst_1 : ∀ (n : Nat) (k x : Int), (k ≤ i ∧ i < k + n) → (∀ j, k ≤ j → j < k + n → (P j ↔ j = i)) → @lpI (fun k a => @ite _ (P k) (Classical.propDecidable _) k a) n k x = i
  | 0, _, _, hi, _ => by omega
  | n + 1, k, x, hi, h => by
    show lpI _ n (k + 1) (@ite _ (P k) (Classical.propDecidable _) k x) = i
    by_cases z : k = i
    · rw [if_pos ((h k (by omega) (by omega)).mpr z)]
      rw [lst_n n (k + 1) k fun j a b e => by have := (h j (by omega) (by omega)).mp e; omega]
      exact z
    · rw [if_neg (fun e => z ((h k (by omega) (by omega)).mp e))]
      exact lst_1 n (k + 1) x (by omega) fun j a b => h j (by omega) (by omega)
abbrev wtg (m : Int → Int) (o : Int) : Prop := isO m o ∧ sto m o = 0
theorem mwb_c : mwb m o = cnt (fun k => sto m k = 0 ∧ ahO m k o) (m 4).toNat 0 := rfl
theorem mwc_c : mwc m = cnt (fun k => sto m k = 0) (m 4).toNat 0 := by
  unfold mwc cnt
  refine lpI_cg fun i y a b => ?_
  show (if sto m i = 0 then y + 1 else y) = y + bI (sto m i = 0)
  by_cases z : sto m i = 0
  · rw [if_pos z, bI_t z]
  · rw [if_neg z, bI_f z, Int.add_zero]
theorem mwb_lt (ha : wtg m a) (hb : wtg m b) (h : ahO m a b) : mwb m a < mwb m b := by
  rw [mwb_c, mwb_c]
  refine cnt_lt (x := a) _ _ (fun i _ _ hi => ⟨hi.1, ?_⟩) (by have := ha.1; omega) ⟨ha.2, h⟩ (fun z => ?_)
  · have hi := hi.2
    unfold ahO at hi h ⊢
    omega
  · have z := z.2
    unfold ahO at z
    omega
theorem mwb_in (ha : wtg m a) (hb : wtg m b) (h : mwb m a = mwb m b) : a = b := by
  rcases Int.lt_trichotomy a b with z | z | z
  · by_cases q : ahO m a b
    · have := mwb_lt ha hb q; omega
    · have q2 : ahO m b a := by unfold ahO at q ⊢; omega
      have := mwb_lt hb ha q2; omega
  · exact z
  · by_cases q : ahO m a b
    · have := mwb_lt ha hb q; omega
    · have q2 : ahO m b a := by unfold ahO at q ⊢; omega
      have := mwb_lt hb ha q2; omega
theorem mwb_r (ha : wtg m a) : 0 ≤ mwb m a ∧ mwb m a < mwc m := by
  refine ⟨(cnt_r _ _).1, ?_⟩
  rw [mwb_c, mwc_c]
  refine cnt_lt (x := a) _ _ (fun i _ _ hi => hi.1) (by have := ha.1; omega) ha.2 (fun z => ?_)
  have z := z.2
  unfold ahO at z
  omega
theorem mwb_on (h0 : 0 ≤ i) (h1 : i < mwc m) : ∃ o, wtg m o ∧ mwb m o = i := by
  refine Classical.byContradiction fun hn => ?_
  have hn : ∀ o, wtg m o → mwb m o ≠ i := fun o ho e => hn ⟨o, ho, e⟩
  obtain ⟨e, e1, e2⟩ := cnt_en (P := fun k => sto m k = 0) (m 4).toNat 0
  rw [← mwc_c] at e1 e2
  have hw (j : Nat) (hj : (j : Int) < mwc m) : wtg m (e j) := ⟨by have := (e1 j hj).1; omega, (e1 j hj).2⟩
  have := pig ((mwc m).toNat - 1) (mwc m).toNat (fun j => if mwb m (e j) < i then (mwb m (e j)).toNat else (mwb m (e j)).toNat - 1) (fun j hj => by
    have h2 := mwb_r (hw j (by omega))
    have h3 := hn _ (hw j (by omega))
    show (if mwb m (e j) < i then (mwb m (e j)).toNat else (mwb m (e j)).toNat - 1) < (mwc m).toNat - 1
    split <;> omega) (fun j j' hj hj' he => by
    have h2 := mwb_r (hw j (by omega))
    have h3 := hn _ (hw j (by omega))
    have h2' := mwb_r (hw j' (by omega))
    have h3' := hn _ (hw j' (by omega))
    have he : (if mwb m (e j) < i then (mwb m (e j)).toNat else (mwb m (e j)).toNat - 1) = if mwb m (e j') < i then (mwb m (e j')).toNat else (mwb m (e j')).toNat - 1 := he
    have : mwb m (e j) = mwb m (e j') := by
      by_cases z : mwb m (e j) < i
      · by_cases z' : mwb m (e j') < i
        · rw [if_pos z, if_pos z'] at he; omega
        · rw [if_pos z, if_neg z'] at he; omega
      · by_cases z' : mwb m (e j') < i
        · rw [if_neg z, if_pos z'] at he; omega
        · rw [if_neg z, if_neg z'] at he; omega
    exact e2 j j' (by omega) (by omega) (mwb_in (hw j (by omega)) (hw j' (by omega)) this))
  omega
theorem wbf_mw (h : Iv m) (ho : isO m o) : wbf m o = mwb m o := by
  have g4 := (iv_c h).2.2.2.2.1
  unfold wbf mwb
  refine lpI_cg fun i y a b => ?_
  show y + bI (stc m i = 0 ∧ rkb m i o) = y + bI (sto m i = 0 ∧ ahO m i o)
  rw [bI_c (show (stc m i = 0 ∧ rkb m i o) ↔ (sto m i = 0 ∧ ahO m i o) by rw [iv_stc h ⟨a, by omega⟩])]
theorem mwf_c : mwf m i = @lpI (fun k a => @ite _ (sto m k = 0 ∧ mwb m k = i) (Classical.propDecidable _) k a) (m 4).toNat 0 (-1) := by
  unfold mwf
  refine lpI_cg fun k a _ _ => ?_
  show (if sto m k = 0 then (if mwb m k = i then k else a) else a) = @ite _ (sto m k = 0 ∧ mwb m k = i) (Classical.propDecidable _) k a
  by_cases z : sto m k = 0
  · by_cases y : mwb m k = i
    · rw [if_pos z, if_pos y, if_pos ⟨z, y⟩]
    · rw [if_pos z, if_neg y, if_neg (fun u => y u.2)]
  · rw [if_neg z, if_neg (fun u => z u.1)]
theorem op_wai (hS : Sm l m) (h : Iv m) : Mt [xNS] (waiO l y) (waiM m y) := by
  have hR := iv_c h
  have g4 := hR.2.2.2.2.1
  have hmc : oin m 0 = mwc m := by
    rw [mwc_c]
    unfold oin cnt
    refine lpI_cg fun i y a b => ?_
    show y + bI (stc m i = 0) = y + bI (sto m i = 0)
    rw [iv_stc h ⟨a, by omega⟩]
  have hmn : 0 ≤ mwc m := by rw [mwc_c]; exact (cnt_r _ _).1
  by_cases z : y = -1
  · have e1 : waiO l y = .inr (oin l 0) := if_pos z
    have e2 : waiM m y = (0, mwc m) := Eq.trans (if_neg (by omega)) (if_pos (by omega))
    rw [e1, e2, sm_oin hS, hmc]
    exact mt_0 rfl
  · have e1 : waiO l y = if wor l y = -1 then .inl xNS else .inr (wor l y) := if_neg z
    rw [e1, sm_wor hS]
    by_cases q : 0 ≤ y ∧ y < mwc m
    · have e2 : waiM m y = (0, mwf m y) := Eq.trans (if_neg (by omega)) (if_neg (by omega))
      obtain ⟨o, ho, eo⟩ := mwb_on q.1 q.2
      have hu : ∀ j, 0 ≤ j → j < m 4 → ((sto m j = 0 ∧ mwb m j = y) ↔ j = o) := fun j a b => ⟨fun u => mwb_in ⟨⟨a, b⟩, u.1⟩ ho (u.2.trans eo.symm), fun u => by rw [u]; exact ⟨ho.2, eo⟩⟩
      have ew : wor m y = o := by
        unfold wor
        refine fnd_y (by omega) ho.1.1 (by have := ho.1.2; omega) ⟨?_, ?_⟩ (fun j a b u => ?_)
        · rw [iv_stc h ho.1]; exact ho.2
        · rw [wbf_mw h ho.1]; exact eo
        · have hj : isO m j := ⟨a, by have := ho.1.2; omega⟩
          have u1_ : stc m j = 0 := u.1
          have u2_ : wbf m j = y := u.2
          rw [iv_stc h hj] at u1_
          rw [wbf_mw h hj] at u2_
          have := (hu j a hj.2).mp ⟨u1_, u2_⟩
          omega
      have ef : mwf m y = o := by
        rw [mwf_c]
        exact lst_1 _ _ _ (by have := ho.1; omega) fun j a b => hu j a (by omega)
      rw [e2, ew, ef, if_neg (show ¬ o = -1 by have := ho.1.1; omega)]
      exact mt_0 rfl
    · have e2 : waiM m y = (1, 0) := if_pos (by omega)
      have ew : wor m y = -1 := by
        unfold wor
        refine fnd_no fun j a b u => q ?_
        have hj : isO m j := ⟨a, by omega⟩
        have u1_ : stc m j = 0 := u.1
        have u2_ : wbf m j = y := u.2
        rw [iv_stc h hj] at u1_
        rw [wbf_mw h hj] at u2_
        rw [← u2_]
        exact mwb_r ⟨hj, u1_⟩
      rw [e2, ew, if_pos rfl]
      exact mt_1
/-! the planner: both find the same ticks -/
theorem ahf_end {f : Int → Int} (h0 : 0 ≤ f 3) (h : f 3 ≤ t) : ahf f t = ahf f (f 3) := by
  unfold ahf
  by_cases z : f 3 = 0
  · rw [if_pos (.inr z), if_pos (.inr z)]
  · rw [if_neg (show ¬ (t = 0 ∨ f 3 = 0) by omega), if_neg (show ¬ (f 3 = 0 ∨ f 3 = 0) by omega)]
    congr 1
    split <;> split <;> omega
theorem bfd_p {P : Int → Prop} : ∀ {n : Nat}, (0 ≤ bfd P n → P (bfd P n)) ∧ ∀ i : Int, bfd P n < i → 0 ≤ i → i < n → ¬ P i
  | 0 => ⟨fun h => absurd h (by show ¬ (0 : Int) ≤ -1; decide), fun i _ a b => by omega⟩
  | n + 1 => by
    by_cases z : P n
    · rw [bfd_t z]
      exact ⟨fun _ => z, fun i a b c => by omega⟩
    · rw [bfd_f z]
      obtain ⟨h1, h2⟩ := bfd_p (P := P) (n := n)
      refine ⟨h1, fun i a b c => ?_⟩
      by_cases q : i = (n : Nat)
      · rw [q]; exact z
      · exact h2 i a b (by omega)
theorem lti_lt {f : Int → Int} (h0 : 0 ≤ f 3 ∧ f 3 ≤ 30) (ht : 1 ≤ t ∧ t ≤ 30) : lti f c < t ↔ ∀ t', t ≤ t' → ahf f t' ≠ c := by
  obtain ⟨p1, p2⟩ := bfd_p (P := fun t => ahf f t = c) (n := (f 3 + 1).toNat)
  have pr := @bfd_r (fun t => ahf f t = c) (f 3 + 1).toNat
  unfold lti
  by_cases z : ahf f (f 3) = c
  · rw [if_pos z]
    refine ⟨fun h => by omega, fun h => ?_⟩
    by_cases q : f 3 ≤ t
    · exact absurd ((ahf_end h0.1 q).trans z) (h t (Int.le_refl t))
    · exact absurd z (h (f 3) (by omega))
  · rw [if_neg z]
    constructor
    · intro h t' ht' e
      by_cases q : f 3 < t'
      · rw [ahf_end h0.1 (by omega)] at e; exact z e
      · exact p2 t' (by omega) (by omega) (by omega) e
    · intro h
      by_cases q : bfd (fun t => ahf f t = c) (f 3 + 1).toNat < t
      · exact q
      · exact absurd (p1 (by omega)) (h _ (by omega))
theorem gtF_lt (hR : RgC m) (ht : 1 ≤ t ∧ t ≤ 30) : ∀ (n : Nat) (k x : Int), 0 ≤ k → k + n = m 3 → (gtF m ro g n k x < t ↔ x < t ∧ ∀ r, k ≤ r → r < m 3 → r ≠ ro → ∀ t', t ≤ t' → ahd m r t' ≠ g)
  | 0, k, x, h0, h1 => ⟨fun h => ⟨h, fun r a b => by omega⟩, fun h => h.1⟩
  | n + 1, k, x, h0, h1 => by
    show gtF m ro g n (k + 1) (if k = ro then x else max x (lti (rb m k) g)) < t ↔ _
    rw [gtF_lt hR ht n (k + 1) _ (by omega) (by omega)]
    by_cases z : k = ro
    · rw [if_pos z]
      refine and_congr_right fun _ => ⟨fun h r a b c => h r (by omega) b c, fun h r a b c => h r (by omega) b c⟩
    · rw [if_neg z]
      have hl := lti_lt (f := rb m k) (c := g) (rgc_r hR ⟨h0, by omega⟩).2.2.2.1 ht
      constructor
      · rintro ⟨h2, h3⟩
        refine ⟨by omega, fun r a b c => ?_⟩
        by_cases q : r = k
        · rw [q]; exact hl.mp (by omega)
        · exact h3 r (by omega) b c
      · rintro ⟨h2, h3⟩
        have := hl.mpr (h3 k (Int.le_refl k) (by omega) z)
        exact ⟨by omega, fun r a b c => h3 r (by omega) b c⟩
theorem gtu_lt (hR : RgC m) (ht : 1 ≤ t ∧ t ≤ 30) : gtu m ro g < t ↔ ∀ r, isR m r → r ≠ ro → ∀ t', t ≤ t' → ahd m r t' ≠ g := by
  have g3 := hR.2.2.2.1
  unfold gtu
  rw [gtF_lt hR ht _ _ _ (by omega) (by omega)]
  exact ⟨fun h r a c => h.2 r a.1 a.2 c, fun h => ⟨by omega, fun r a b c => h r ⟨a, b⟩ c⟩⟩
theorem wbe_n (hR : RgC m) (h0 : 0 ≤ t ∧ t ≤ 31) : wbe m g t ro < 0 ↔ ∀ r, isR m r → r ≠ ro → ∀ t', t ≤ t' → ahd m r t' ≠ g := by
  have g3 := hR.2.2.2.1
  have hr := @fnd_r (wbA m g t ro) (m 3).toNat 0
  have h1 : wbe m g t ro < 0 ↔ fnd (wbA m g t ro) (m 3).toNat 0 = -1 := by
    show fnd (wbA m g t ro) (m 3).toNat 0 < 0 ↔ _
    omega
  rw [h1, fnd_1 (Int.le_refl 0)]
  constructor
  · intro h r a c t' b e
    refine h r a.1 (by have := a.2; omega) ⟨?_, c⟩
    have h3 := (rgc_r hR a).2.2.2.1
    by_cases q : t' ≤ 31
    · exact ⟨t', ⟨b, q⟩, e⟩
    · refine ⟨31, ⟨h0.2, by omega⟩, ?_⟩
      have e1 : ahd m r 31 = ahf (rb m r) (rb m r 3) := ahf_end h3.1 (by omega)
      have e2 : ahd m r t' = ahf (rb m r) (rb m r 3) := ahf_end h3.1 (by omega)
      rw [e1, ← e2]
      exact e
  · rintro h r a b ⟨⟨t', c, e⟩, d⟩
    exact h r ⟨a, by omega⟩ d t' c.1 e
/-- the class's way to say that a plan can end -/
abbrev pT (m : Int → Int) (ro g t : Int) : Prop := rea m ro t.toNat g ∧ gtu m ro g < t
theorem cn_pT (hR : RgC m) (hg : isC m g) (ht : 1 ≤ t ∧ t ≤ 30) (h : cnL m ro g t) : pT m ro g t := by
  obtain ⟨⟨w, h1, h2, h3, h4⟩, h5⟩ := h
  refine ⟨?_, (gtu_lt hR ht).mpr fun r a c t' b => ?_⟩
  · rw [show t.toNat = (t - 1).toNat + 1 by omega]
    refine ⟨hg, w, by omega, h2, h3, ?_⟩
    rw [Int.toNat_of_nonneg (by omega)]
    exact h4
  · by_cases q : t' = t
    · rcases h4.2 r a.1 a.2 with y | y
      · exact absurd y c
      · have := y.1
        rw [show t - 1 + 1 = t by omega] at this
        rw [q]; exact this
    · exact (wbe_n hR (by omega)).mp h5 r a c t' (by omega)
theorem no_rest (hR : RgC m) (hr : isR m ro) (hne : rb m ro 0 ≠ g) (ht : 1 ≤ t ∧ t ≤ 30) (h : pT m ro g t) (hn : ∀ t', 1 ≤ t' → t' < t → ¬ pT m ro g t') : ¬ rea m ro (t - 1).toNat g := by
  intro h1
  by_cases z : t = 1
  · rw [z] at h1
    exact hne (show g = rb m ro 0 from h1).symm
  · refine hn (t - 1) (by omega) (by omega) ⟨h1, (gtu_lt hR (by omega)).mpr fun r a c t' b => ?_⟩
    by_cases q : t' = t - 1
    · rw [q]
      rw [show (t - 1).toNat = (t - 2).toNat + 1 by omega] at h1
      obtain ⟨_, w, _, _, _, h4⟩ := h1
      rw [Int.toNat_of_nonneg (show 0 ≤ t - 2 by omega)] at h4
      rcases h4.2 r a.1 a.2 with y | y
      · exact absurd y c
      · have := y.1
        rw [show t - 2 + 1 = t - 1 by omega] at this
        exact this
    · exact (gtu_lt hR ht).mp h.2 r a c t' (by omega)
theorem pT_cn (hR : RgC m) (hr : isR m ro) (hne : rb m ro 0 ≠ g) (ht : 1 ≤ t ∧ t ≤ 30) (h : pT m ro g t) (hn : ∀ t', 1 ≤ t' → t' < t → ¬ pT m ro g t') : cnL m ro g t := by
  have h0 := no_rest hR hr hne ht h hn
  have h1 := h.1
  rw [show t.toNat = (t - 1).toNat + 1 by omega] at h1
  obtain ⟨hg, w, h2, h3, h4, h5⟩ := h1
  rw [Int.toNat_of_nonneg (show 0 ≤ t - 1 by omega)] at h5
  refine ⟨⟨w, ⟨h2.1, ?_⟩, h3, h4, h5⟩, (wbe_n hR (by omega)).mpr fun r a c t' b => (gtu_lt hR ht).mp h.2 r a c t' (by omega)⟩
  by_cases q : w = 4
  · rw [q] at h4
    have e : bes m g 4 = g := by
      unfold bes
      rw [if_neg (by decide), if_neg (by decide), if_neg (by decide), if_neg (by decide)]
    rw [e] at h4
    exact absurd h4 h0
  · omega
theorem fT_p (hR : RgC m) (h : ¬ fT m ro g = -1) : (1 ≤ fT m ro g ∧ fT m ro g ≤ 30) ∧ pT m ro g (fT m ro g) ∧ ∀ t', 1 ≤ t' → t' < fT m ro g → ¬ pT m ro g t' := by
  have g7 := hR.2.2.2.2.2.2.2.2.1
  obtain ⟨h1, h2, h3⟩ := fnd_p (P := fun t => rea m ro t.toNat g ∧ gtu m ro g < t) (n := (m 7).toNat) (k := 1) h
  exact ⟨⟨h1.1, by have h1 : 1 ≤ fT m ro g ∧ fT m ro g < 1 + ((m 7).toNat : Int) := h1; omega⟩, h2, h3⟩
theorem fT_fw (hR : RgC m) (hr : isR m ro) (hg : isC m g) (hne : rb m ro 0 ≠ g) : fT m ro g = fwM m ro g := by
  have g7 := hR.2.2.2.2.2.2.2.2.1
  by_cases z : fT m ro g = -1
  · rw [z]
    refine (fnd_no fun i a b e => ?_).symm
    have e := cn_pT hR hg (by omega) e
    exact (fnd_1 (Int.le_of_lt (by decide : (0 : Int) < 1))).mp z i a b e
  · obtain ⟨h1, h2, h3⟩ := fT_p hR z
    have hb : fT m ro g < 1 + ((m 7).toNat : Int) := by
      have := (fnd_p (P := fun t => rea m ro t.toNat g ∧ gtu m ro g < t) (n := (m 7).toNat) (k := 1) z).1.2
      exact this
    exact (fnd_y (by decide) h1.1 hb (pT_cn hR hr hne h1 h2 h3) fun j a b e => h3 j a b (cn_pT hR hg (by omega) e)).symm
theorem op_arr (hS : Sm l m) (h : Iv m) : Mt [xIO, xNS] (arrO l y z) (arrM m y z) := by
  have hR := iv_c h
  by_cases hc : isR m y ∧ isC m z
  · have he := sm_ent hS hc.2
    have e0 := sm_rb hS hc.1 (i := 0) (by omega) (by omega)
    have ef := sm_fT (g := z) hS hR hc.1
    have e1 : arrO l y z = if ¬ ent l z then .inl xNS else if rb l y 0 = z then .inr 0 else if fT l y z = -1 then .inl xNS else .inr (fT l y z) := if_neg (fun x => x ⟨(sm_R hS).mpr hc.1, (sm_C hS).mpr hc.2⟩)
    have e2 : arrM m y z = if rb m y 0 = z then (0, 0) else if ¬ ent m z then (2, 0) else if fwM m y z < 0 then (2, 0) else (0, fwM m y z) := if_neg (fun x => x hc)
    rw [e1, e2, e0, ef]
    by_cases q : rb m y 0 = z
    · have hen : ent m z := by
        have := h.2.2.2.1 y hc.1 0 (Int.le_refl 0)
        rw [ahd_0, q] at this
        exact this
      rw [if_neg (show ¬ ¬ ent l z from fun u => u (he.mpr hen)), if_pos q, if_pos q]
      exact mt_0 rfl
    · rw [if_neg (show ¬ rb m y 0 = z from q)]
      by_cases u : ent m z
      · have hf := fT_fw hR hc.1 hc.2 q
        have hr := @fnd_r (cnL m y z) (m 7).toNat 1
        have hr : fwM m y z = -1 ∨ (1 ≤ fwM m y z ∧ fwM m y z < 1 + ((m 7).toNat : Int)) := hr
        rw [if_neg (show ¬ ¬ ent l z from fun v => v (he.mpr u)), if_neg q, if_neg (show ¬ ¬ ent m z from fun v => v u), hf]
        by_cases v : fwM m y z = -1
        · rw [if_pos v, if_pos (show fwM m y z < 0 by omega)]; exact mt_2
        · rw [if_neg v, if_neg (show ¬ fwM m y z < 0 by omega)]; exact mt_0 rfl
      · rw [if_pos (show ¬ ent l z from fun v => u (he.mp v)), if_neg q, if_pos u]
        exact mt_2
  · have e1 : arrO l y z = .inl xIO := if_pos (fun x => hc ⟨(sm_R hS).mp x.1, (sm_C hS).mp x.2⟩)
    have e2 : arrM m y z = (1, 0) := if_pos hc
    rw [e1, e2]
    exact mt_1
end PD
