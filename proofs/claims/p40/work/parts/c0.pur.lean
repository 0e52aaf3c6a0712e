/-! the search from one cell finds the least numbers of steps -/
section C0
variable {s : Int → Int} {a b c k w v : Int} {X : BX}
/-- while the cell c at place k of the queue is looked at: directions below w are done -/
def BJ (s : Int → Int) (a c k w : Int) (X : BX) : Prop := Binv s X ∧ ((0 ≤ k ∧ k < X.2.2) ∧ X.2.1 k = c) ∧ (∀ i j, 0 ≤ i → i ≤ j → j < X.2.2 → X.1 (X.2.1 i) ≤ X.1 (X.2.1 j)) ∧ (∀ v, 0 ≤ X.1 v → ∃ j, (0 ≤ j ∧ j < X.2.2) ∧ X.2.1 j = v) ∧ (∀ v, 0 ≤ X.1 v → wk s (X.1 v).toNat a v) ∧ (∀ j, 0 ≤ j → j < X.2.2 → X.1 (X.2.1 j) ≤ X.1 c + 1) ∧
  (∀ i, 0 ≤ i → i < k → ∀ v, edge s (X.2.1 i) v → 0 ≤ X.1 v ∧ X.1 v ≤ X.1 (X.2.1 i) + 1) ∧ ∀ w', 0 ≤ w' → w' < w → 0 ≤ bes s c w' → ent s (bes s c w') → 0 ≤ X.1 (bes s c w') ∧ X.1 (bes s c w') ≤ X.1 c + 1
/-- between two cells: places below k are done -/
def BL (s : Int → Int) (a k : Int) (X : BX) : Prop := Binv s X ∧ 0 ≤ k ∧ (∀ i j, 0 ≤ i → i ≤ j → j < X.2.2 → X.1 (X.2.1 i) ≤ X.1 (X.2.1 j)) ∧ (∀ v, 0 ≤ X.1 v → ∃ j, (0 ≤ j ∧ j < X.2.2) ∧ X.2.1 j = v) ∧ (∀ v, 0 ≤ X.1 v → wk s (X.1 v).toNat a v) ∧ (k < X.2.2 → ∀ j, 0 ≤ j → j < X.2.2 → X.1 (X.2.1 j) ≤ X.1 (X.2.1 k) + 1) ∧
  (∀ i, 0 ≤ i → i < k → i < X.2.2 → ∀ v, edge s (X.2.1 i) v → 0 ≤ X.1 v ∧ X.1 v ≤ X.1 (X.2.1 i) + 1)
theorem wk_snoc {n : Nat} (h : wk s n a c) (e : edge s c b) : wk s (n + 1) a b := wk_app n 1 a c b h ⟨b, e, rfl⟩
theorem bj_w (hR : RgC s) (hb : bes s c w = -1 ∨ (0 ≤ bes s c w ∧ bes s c w < cs s)) (hw : 0 ≤ w ∧ w < 4) (h : BJ s a c k w X) : BJ s a c k (w + 1) (bfw s c w X) := by
  obtain ⟨h1, ⟨⟨k0, k1⟩, k2⟩, h3, h4, h5, h6, h7, h8⟩ := h
  have hq : ∀ j, 0 ≤ j → j < X.2.2 → 0 ≤ X.1 (X.2.1 j) := fun j a b => (h1.2.1 j a b).2.1
  have hc0 : 0 ≤ X.1 c := by rw [← k2]; exact hq k k0 k1
  obtain ⟨g1, g2, g3⟩ := bfw_ok h1 hb k0 k1 k2
  by_cases hB : bfC s c w X
  · rw [bfw_t hB] at g1 ⊢
    obtain ⟨b1, b2, b3⟩ := hB
    generalize hv : bes s c w = v at *
    have hne : ∀ u, 0 ≤ X.1 u → u ≠ v := fun u hu e => by rw [e] at hu; omega
    have hX : ∀ u, 0 ≤ X.1 u → u1 X.1 v (X.1 c + 1) u = X.1 u := fun u hu => u1_ne (hne u hu)
    have hXv : u1 X.1 v (X.1 c + 1) v = X.1 c + 1 := u1_eq
    have hQ : ∀ j, j < X.2.2 → u1 X.2.1 X.2.2 v j = X.2.1 j := fun j hj => u1_ne (by omega)
    have hQt : u1 X.2.1 X.2.2 v X.2.2 = v := u1_eq
    refine ⟨g1, ⟨⟨k0, by show k < X.2.2 + 1; omega⟩, (hQ k k1).trans k2⟩, fun i j i0 ij jt => ?_, fun u hu => ?_, fun u hu => ?_, fun j j0 jt => ?_, fun i i0 ik u hu => ?_, fun w' w0 w1 e1 e2 => ?_⟩
    · have jt : j < X.2.2 + 1 := jt
      show u1 X.1 v (X.1 c + 1) (u1 X.2.1 X.2.2 v i) ≤ u1 X.1 v (X.1 c + 1) (u1 X.2.1 X.2.2 v j)
      by_cases ej : j = X.2.2
      · by_cases ei : i = X.2.2
        · rw [ei, ej]; exact Int.le_refl _
        · rw [ej, hQt, hXv, hQ i (by omega), hX _ (hq i i0 (by omega))]
          exact h6 i i0 (by omega)
      · rw [hQ i (by omega), hQ j (by omega), hX _ (hq i i0 (by omega)), hX _ (hq j (by omega) (by omega))]
        exact h3 i j i0 ij (by omega)
    · by_cases eu : u = v
      · exact ⟨X.2.2, ⟨by omega, by show X.2.2 < X.2.2 + 1; omega⟩, by rw [eu]; exact hQt⟩
      · have hu : 0 ≤ u1 X.1 v (X.1 c + 1) u := hu
        rw [u1_ne eu] at hu
        obtain ⟨j, ⟨j0, j1⟩, j2⟩ := h4 u hu
        exact ⟨j, ⟨j0, by show j < X.2.2 + 1; omega⟩, (hQ j j1).trans j2⟩
    · show wk s (u1 X.1 v (X.1 c + 1) u).toNat a u
      have hu : 0 ≤ u1 X.1 v (X.1 c + 1) u := hu
      by_cases eu : u = v
      · rw [eu, hXv, show (X.1 c + 1).toNat = (X.1 c).toNat + 1 by omega]
        exact wk_snoc (h5 c hc0) ⟨w, hw, hv, b1, b3⟩
      · rw [u1_ne eu] at hu ⊢
        exact h5 u hu
    · have jt : j < X.2.2 + 1 := jt
      show u1 X.1 v (X.1 c + 1) (u1 X.2.1 X.2.2 v j) ≤ u1 X.1 v (X.1 c + 1) c + 1
      rw [hX c hc0]
      by_cases ej : j = X.2.2
      · rw [ej, hQt, hXv]; exact Int.le_refl _
      · rw [hQ j (by omega), hX _ (hq j j0 (by omega))]
        exact h6 j j0 (by omega)
    · have hu : edge s (u1 X.2.1 X.2.2 v i) u := hu
      show 0 ≤ u1 X.1 v (X.1 c + 1) u ∧ u1 X.1 v (X.1 c + 1) u ≤ u1 X.1 v (X.1 c + 1) (u1 X.2.1 X.2.2 v i) + 1
      rw [hQ i (by omega)] at hu ⊢
      rw [hX _ (hq i i0 (by omega))]
      have hz := h7 i i0 ik u hu
      rw [hX u hz.1]
      exact hz
    · show 0 ≤ u1 X.1 v (X.1 c + 1) (bes s c w') ∧ u1 X.1 v (X.1 c + 1) (bes s c w') ≤ u1 X.1 v (X.1 c + 1) c + 1
      rw [hX c hc0]
      by_cases ew : w' = w
      · rw [ew, hv, hXv]
        exact ⟨by omega, Int.le_refl _⟩
      · have hz := h8 w' w0 (by omega) e1 e2
        rw [hX _ hz.1]
        exact hz
  · rw [bfw_f hB]
    refine ⟨h1, ⟨⟨k0, k1⟩, k2⟩, h3, h4, h5, h6, h7, fun w' w0 w1 e1 e2 => ?_⟩
    by_cases ew : w' = w
    · rw [ew] at e1 e2 ⊢
      have hv : 0 ≤ X.1 (bes s c w) := by
        refine Classical.byContradiction fun hn => hB ⟨e1, by omega, e2⟩
      obtain ⟨j, ⟨j0, j1⟩, j2⟩ := h4 _ hv
      have := h6 j j0 j1
      rw [j2] at this
      exact ⟨hv, this⟩
    · exact h8 w' w0 (by omega) e1 e2
theorem bj_r (hR : RgC s) (hb : ∀ w, bes s c w = -1 ∨ (0 ≤ bes s c w ∧ bes s c w < cs s)) : ∀ (n : Nat) (w : Int) (X : BX), 0 ≤ w → w + n = 4 → BJ s a c k w X → BJ s a c k 4 (bfr s c n w X)
  | 0, w, X, w0, e, h => by
    have : w = 4 := by omega
    subst this
    exact h
  | n + 1, w, X, w0, e, h => bj_r hR hb n (w + 1) _ (by omega) (by omega) (bj_w hR (hb w) (by omega) h)
theorem bl_s (hR : RgC s) (hb : ∀ c w, isC s c → bes s c w = -1 ∨ (0 ≤ bes s c w ∧ bes s c w < cs s)) (h : BL s a k X) (hk : k < X.2.2) : BL s a (k + 1) (bfr s (X.2.1 k) 4 0 X) := by
  obtain ⟨h1, k0, h3, h4, h5, h6, h7⟩ := h
  have hc := (h1.2.1 k k0 hk).1
  have hJ : BJ s a (X.2.1 k) k 0 X := ⟨h1, ⟨⟨k0, hk⟩, rfl⟩, h3, h4, h5, h6 hk, fun i i0 ik => h7 i i0 ik (by omega), fun w' a b => by omega⟩
  obtain ⟨g1, ⟨⟨_, g2⟩, g3⟩, g4, g5, g6, g7, g8, g9⟩ := bj_r hR (fun w => hb _ w hc) 4 0 X (by omega) (by omega) hJ
  refine ⟨g1, by omega, g4, g5, g6, fun hk2 j j0 jt => ?_, fun i i0 ik it v hv => ?_⟩
  · have e1 := g7 j j0 jt
    have e2 := g4 k (k + 1) k0 (by omega) hk2
    rw [g3] at e2
    omega
  · by_cases e : i = k
    · rw [e, g3] at hv ⊢
      obtain ⟨w, ⟨w0, w1⟩, e1, e2, e3⟩ := hv
      rw [← e1] at e2 e3 ⊢
      exact g9 w w0 w1 e2 e3
    · exact g8 i i0 (by omega) v hv
theorem bl_l (hR : RgC s) (hb : ∀ c w, isC s c → bes s c w = -1 ∨ (0 ≤ bes s c w ∧ bes s c w < cs s)) : ∀ (n : Nat) (k : Int) (X : BX), BL s a k X → ∃ k', BL s a k' (bfl s n k X) ∧ ((bfl s n k X).2.2 ≤ k' ∨ k' = k + n)
  | 0, k, X, h => ⟨k, h, Or.inr (by omega)⟩
  | n + 1, k, X, h => by
    by_cases hk : k < X.2.2
    · have e : bfl s (n + 1) k X = bfl s n (k + 1) (bfr s (X.2.1 k) 4 0 X) := if_pos hk
      rw [e]
      obtain ⟨k', a1, a2⟩ := bl_l hR hb n (k + 1) _ (bl_s hR hb h hk)
      exact ⟨k', a1, by omega⟩
    · have e : bfl s (n + 1) k X = X := if_neg hk
      rw [e]
      exact ⟨k, h, Or.inl (by omega)⟩
theorem rgc_bes (hR : RgC s) : ∀ c w, isC s c → bes s c w = -1 ∨ (0 ≤ bes s c w ∧ bes s c w < cs s) := fun c w hc => besC_r hR hc
theorem bf0_bl (ha : isC s a) : BL s a 0 (bf0 a) := by
  refine ⟨bf0_ok ha, by omega, fun i j i0 ij jt => ?_, fun v hv => ?_, fun v hv => ?_, fun _ j j0 jt => ?_, fun i i0 ik => by omega⟩
  · exact Int.le_refl _
  · have hv : 0 ≤ (if v = a then (0 : Int) else -1) := hv
    by_cases e : v = a
    · exact ⟨0, ⟨by omega, by show (0 : Int) < 1; omega⟩, e.symm⟩
    · rw [if_neg e] at hv; omega
  · have hv : 0 ≤ (if v = a then (0 : Int) else -1) := hv
    show wk s (if v = a then (0 : Int) else -1).toNat a v
    by_cases e : v = a
    · rw [if_pos e]; exact e.symm
    · rw [if_neg e] at hv; omega
  · show (if a = a then (0 : Int) else -1) ≤ (if a = a then (0 : Int) else -1) + 1
    rw [if_pos rfl]; omega
/-- the steps found: walks of just this length, and none shorter -/
theorem far_wk (hR : RgC s) (ha : isC s a) (h : 0 ≤ far s a v) : wk s (far s a v).toNat a v := by
  obtain ⟨k', h1, h2⟩ := bl_l hR (rgc_bes hR) 48 0 (bf0 a) (bf0_bl ha)
  exact h1.2.2.2.2.1 v h
theorem far_le (hR : RgC s) (ha : isC s a) : ∀ (n : Nat) (u v : Int), 0 ≤ far s a u → wk s n u v → 0 ≤ far s a v ∧ far s a v ≤ far s a u + n := by
  obtain ⟨k', h1, h2⟩ := bl_l hR (rgc_bes hR) 48 0 (bf0 a) (bf0_bl ha)
  have hcs := hR.2.2.2.2.2.1
  have ht := b_many (s := s) (by omega) h1.1
  have hk : (bfl s 48 0 (bf0 a)).2.2 ≤ k' := by omega
  have hE : ∀ u v, 0 ≤ far s a u → edge s u v → 0 ≤ far s a v ∧ far s a v ≤ far s a u + 1 := fun u v hu he => by
    obtain ⟨j, ⟨j0, j1⟩, j2⟩ := h1.2.2.2.1 u hu
    have := h1.2.2.2.2.2.2 j j0 (by omega) j1 v (by rw [j2]; exact he)
    rw [j2] at this
    exact this
  intro n
  induction n with
  | zero =>
    intro u v hu hw
    have e : u = v := hw
    rw [← e]
    exact ⟨hu, by omega⟩
  | succ n ih =>
    intro u v hu hw
    obtain ⟨c, e1, e2⟩ := hw
    have q1 := hE u c hu e1
    have q2 := ih c v q1.1 e2
    exact ⟨q2.1, by omega⟩
theorem far_dst (hR : RgC s) (ha : isC s a) (b : Int) : far s a b = dst s a b := by
  have hz := (far_z hR ha).1
  have hr := (far_r hR ha b).1
  have hlt : ∀ n : Nat, wk s n a b → 0 ≤ far s a b ∧ far s a b ≤ n := fun n hw => by
    have := far_le hR ha n a b (by omega) hw
    omega
  unfold dst dsB
  by_cases h : 0 ≤ far s a b
  · refine (fnd_y (P := fun n => wk s n.toNat a b) (by omega) h (by omega) (far_wk hR ha h) fun j j0 jl hw => ?_).symm
    have := (hlt _ hw).2
    omega
  · rw [fnd_no fun i a0 a1 hw => h (hlt _ hw).1]
    omega
theorem edge_sym (hR : RgC s) (ha : isC s a) (hea : ent s a) (h : edge s a b) : edge s b a := by
  obtain ⟨w, hw, e1, e2, e3⟩ := h
  obtain ⟨u, hu, e4⟩ := bes_sym hR ha (w := w) (by omega) e1 e2
  have hu4 : u ≠ 4 := by
    intro e
    rw [e] at e4
    have e5 : bes s b 4 = b := rfl
    have e6 : b = a := e5.symm.trans e4
    rw [e6] at e1
    rcases bes_ne hR hw (c := a) with q | q
    · exact q e1
    · have := ha.1
      omega
  exact ⟨u, by omega, e4, ha.1, hea⟩
theorem wk_sym (hR : RgC s) : ∀ (n : Nat) (a b : Int), isC s a → ent s a → wk s n a b → wk s n b a
  | 0, a, b, _, _, h => (show a = b from h).symm
  | n + 1, a, b, ha, hea, h => by
    obtain ⟨c, e1, e2⟩ := h
    have hc := edge_c hR ha e1
    obtain ⟨w, hw, q1, q2, q3⟩ := id e1
    exact wk_snoc (wk_sym hR n c b hc q3 e2) (edge_sym hR ha hea e1)
theorem wk_end : ∀ (n : Nat) (a b : Int), wk s (n + 1) a b → ent s b
  | 0, a, b, h => by
    obtain ⟨c, ⟨w, hw, e1, e2, e3⟩, e4⟩ := h
    have e4 : c = b := e4
    rw [← e4]
    exact e3
  | n + 1, a, b, h => by
    obtain ⟨c, _, e2⟩ := h
    exact wk_end n c b e2
theorem dst_sym (hR : RgC s) (ha : isC s a) (hb : isC s b) (hea : ent s a) (heb : ent s b) : dst s a b = dst s b a := fnd_cg fun i _ _ => ⟨wk_sym hR _ a b ha hea, wk_sym hR _ b a hb heb⟩
theorem far_sym (hR : RgC s) (ha : isC s a) (hb : isC s b) (hea : ent s a) (heb : ent s b) : far s a b = far s b a := by
  rw [far_dst hR ha, far_dst hR hb, dst_sym hR ha hb hea heb]
theorem far_ent (hR : RgC s) (ha : isC s a) (h : 0 < far s a b) : isC s b ∧ ent s b := by
  have h1 := far_wk hR ha (v := b) (by omega)
  rw [show (far s a b).toNat = ((far s a b).toNat - 1) + 1 by omega] at h1
  exact ⟨(far_r hR ha b).2 (by omega), wk_end _ _ _ h1⟩
theorem far_1 (hR : RgC s) (ha : isC s a) (h : edge s a b) (hne : a ≠ b) : far s a b = 1 := by
  have hz := far_z hR ha
  have := far_le hR ha 1 a b (by omega) ⟨b, h, rfl⟩
  have h0 : far s a b ≠ 0 := fun e => hne (hz.2 b e).symm
  omega
end C0
