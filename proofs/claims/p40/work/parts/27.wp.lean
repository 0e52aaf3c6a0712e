/-! what a frame comes to, said of its end; rows of ints and objects of the class by what is known of them -/
def Xv (E : q_E) (M : q_M) (pc : Nat) (ls st : List Value) (h : q_H) (Q : q_R → q_H → Prop) : Prop := ∃ r h', q_ex E M pc ls st h = some (r, h') ∧ Q r h'
section XV
variable {E : q_E} {M M' : q_M} {pc pc' : Nat} {ls ls' st st' vs : List Value} {h h' : q_H} {x y : Int} {Q : q_R → q_H → Prop} {r : q_R}
theorem xv (e : q_ex E M pc ls st h = q_ex E M pc' ls' st' h') (k : Xv E M pc' ls' st' h' Q) : Xv E M pc ls st h Q := by
  obtain ⟨r, g, a, b⟩ := k
  exact ⟨r, g, e.trans a, b⟩
theorem xv_r (e : q_ex E M pc ls st h = some (r, h')) (k : Q r h') : Xv E M pc ls st h Q := ⟨r, h', e, k⟩
theorem xv_q (k : Xv E M 0 (q_ent M vs) [] h Q) : ∃ r h', q_cl E M vs h = some (r, h') ∧ Q r h' := k
theorem xv_m {Q' : q_R → q_H → Prop} (k : Xv E M pc ls st h Q) (hq : ∀ r h', Q r h' → Q' r h') : Xv E M pc ls st h Q' := by
  obtain ⟨r, g, a, b⟩ := k
  exact ⟨r, g, a, hq _ _ b⟩
theorem v_icmp_eq (t n : Nat) {off : Int} (hd : decode M.2.1 pc = .ok (.if_icmp .eq off, 3)) (ht : q_tgt pc off = some t) (hn : pc + 3 = n) (h1 : -2147483648 ≤ x) (h2 : x < 2147483648) (h3 : -2147483648 ≤ y) (h4 : y < 2147483648) (kt : x = y → Xv E M t ls st h Q) (kf : ¬ (x = y) → Xv E M n ls st h Q) : Xv E M pc ls (.int (zi y) :: .int (zi x) :: st) h Q := by
  by_cases hc : x = y
  · exact xv (x_icmp_eq t n hd ht hn h1 h2 h3 h4 (fun _ => rfl) (fun k => absurd hc k)) (kt hc)
  · exact xv (x_icmp_eq t n hd ht hn h1 h2 h3 h4 (fun k => absurd k hc) (fun _ => rfl)) (kf hc)
theorem v_if_eq (t n : Nat) {off : Int} (hd : decode M.2.1 pc = .ok (.ifCond .eq off, 3)) (ht : q_tgt pc off = some t) (hn : pc + 3 = n) (h1 : -2147483648 ≤ x) (h2 : x < 2147483648) (kt : x = 0 → Xv E M t ls st h Q) (kf : ¬ (x = 0) → Xv E M n ls st h Q) : Xv E M pc ls (.int (zi x) :: st) h Q := by
  by_cases hc : x = 0
  · exact xv (x_if_eq t n hd ht hn h1 h2 (fun _ => rfl) (fun k => absurd hc k)) (kt hc)
  · exact xv (x_if_eq t n hd ht hn h1 h2 (fun k => absurd k hc) (fun _ => rfl)) (kf hc)
theorem v_icmp_ne (t n : Nat) {off : Int} (hd : decode M.2.1 pc = .ok (.if_icmp .ne off, 3)) (ht : q_tgt pc off = some t) (hn : pc + 3 = n) (h1 : -2147483648 ≤ x) (h2 : x < 2147483648) (h3 : -2147483648 ≤ y) (h4 : y < 2147483648) (kt : ¬ (x = y) → Xv E M t ls st h Q) (kf : x = y → Xv E M n ls st h Q) : Xv E M pc ls (.int (zi y) :: .int (zi x) :: st) h Q := by
  by_cases hc : ¬ (x = y)
  · exact xv (x_icmp_ne t n hd ht hn h1 h2 h3 h4 (fun _ => rfl) (fun k => absurd k hc)) (kt hc)
  · exact xv (x_icmp_ne t n hd ht hn h1 h2 h3 h4 (fun k => absurd k hc) (fun _ => rfl)) (kf (Classical.not_not.mp hc))
theorem v_if_ne (t n : Nat) {off : Int} (hd : decode M.2.1 pc = .ok (.ifCond .ne off, 3)) (ht : q_tgt pc off = some t) (hn : pc + 3 = n) (h1 : -2147483648 ≤ x) (h2 : x < 2147483648) (kt : ¬ (x = 0) → Xv E M t ls st h Q) (kf : x = 0 → Xv E M n ls st h Q) : Xv E M pc ls (.int (zi x) :: st) h Q := by
  by_cases hc : ¬ (x = 0)
  · exact xv (x_if_ne t n hd ht hn h1 h2 (fun _ => rfl) (fun k => absurd k hc)) (kt hc)
  · exact xv (x_if_ne t n hd ht hn h1 h2 (fun k => absurd k hc) (fun _ => rfl)) (kf (Classical.not_not.mp hc))
theorem v_icmp_lt (t n : Nat) {off : Int} (hd : decode M.2.1 pc = .ok (.if_icmp .lt off, 3)) (ht : q_tgt pc off = some t) (hn : pc + 3 = n) (h1 : -2147483648 ≤ x) (h2 : x < 2147483648) (h3 : -2147483648 ≤ y) (h4 : y < 2147483648) (kt : x < y → Xv E M t ls st h Q) (kf : ¬ (x < y) → Xv E M n ls st h Q) : Xv E M pc ls (.int (zi y) :: .int (zi x) :: st) h Q := by
  by_cases hc : x < y
  · exact xv (x_icmp_lt t n hd ht hn h1 h2 h3 h4 (fun _ => rfl) (fun k => absurd hc k)) (kt hc)
  · exact xv (x_icmp_lt t n hd ht hn h1 h2 h3 h4 (fun k => absurd k hc) (fun _ => rfl)) (kf hc)
theorem v_if_lt (t n : Nat) {off : Int} (hd : decode M.2.1 pc = .ok (.ifCond .lt off, 3)) (ht : q_tgt pc off = some t) (hn : pc + 3 = n) (h1 : -2147483648 ≤ x) (h2 : x < 2147483648) (kt : x < 0 → Xv E M t ls st h Q) (kf : ¬ (x < 0) → Xv E M n ls st h Q) : Xv E M pc ls (.int (zi x) :: st) h Q := by
  by_cases hc : x < 0
  · exact xv (x_if_lt t n hd ht hn h1 h2 (fun _ => rfl) (fun k => absurd hc k)) (kt hc)
  · exact xv (x_if_lt t n hd ht hn h1 h2 (fun k => absurd k hc) (fun _ => rfl)) (kf hc)
theorem v_icmp_ge (t n : Nat) {off : Int} (hd : decode M.2.1 pc = .ok (.if_icmp .ge off, 3)) (ht : q_tgt pc off = some t) (hn : pc + 3 = n) (h1 : -2147483648 ≤ x) (h2 : x < 2147483648) (h3 : -2147483648 ≤ y) (h4 : y < 2147483648) (kt : y ≤ x → Xv E M t ls st h Q) (kf : ¬ (y ≤ x) → Xv E M n ls st h Q) : Xv E M pc ls (.int (zi y) :: .int (zi x) :: st) h Q := by
  by_cases hc : y ≤ x
  · exact xv (x_icmp_ge t n hd ht hn h1 h2 h3 h4 (fun _ => rfl) (fun k => absurd hc k)) (kt hc)
  · exact xv (x_icmp_ge t n hd ht hn h1 h2 h3 h4 (fun k => absurd k hc) (fun _ => rfl)) (kf hc)
theorem v_if_ge (t n : Nat) {off : Int} (hd : decode M.2.1 pc = .ok (.ifCond .ge off, 3)) (ht : q_tgt pc off = some t) (hn : pc + 3 = n) (h1 : -2147483648 ≤ x) (h2 : x < 2147483648) (kt : 0 ≤ x → Xv E M t ls st h Q) (kf : ¬ (0 ≤ x) → Xv E M n ls st h Q) : Xv E M pc ls (.int (zi x) :: st) h Q := by
  by_cases hc : 0 ≤ x
  · exact xv (x_if_ge t n hd ht hn h1 h2 (fun _ => rfl) (fun k => absurd hc k)) (kt hc)
  · exact xv (x_if_ge t n hd ht hn h1 h2 (fun k => absurd k hc) (fun _ => rfl)) (kf hc)
theorem v_icmp_gt (t n : Nat) {off : Int} (hd : decode M.2.1 pc = .ok (.if_icmp .gt off, 3)) (ht : q_tgt pc off = some t) (hn : pc + 3 = n) (h1 : -2147483648 ≤ x) (h2 : x < 2147483648) (h3 : -2147483648 ≤ y) (h4 : y < 2147483648) (kt : y < x → Xv E M t ls st h Q) (kf : ¬ (y < x) → Xv E M n ls st h Q) : Xv E M pc ls (.int (zi y) :: .int (zi x) :: st) h Q := by
  by_cases hc : y < x
  · exact xv (x_icmp_gt t n hd ht hn h1 h2 h3 h4 (fun _ => rfl) (fun k => absurd hc k)) (kt hc)
  · exact xv (x_icmp_gt t n hd ht hn h1 h2 h3 h4 (fun k => absurd k hc) (fun _ => rfl)) (kf hc)
theorem v_if_gt (t n : Nat) {off : Int} (hd : decode M.2.1 pc = .ok (.ifCond .gt off, 3)) (ht : q_tgt pc off = some t) (hn : pc + 3 = n) (h1 : -2147483648 ≤ x) (h2 : x < 2147483648) (kt : 0 < x → Xv E M t ls st h Q) (kf : ¬ (0 < x) → Xv E M n ls st h Q) : Xv E M pc ls (.int (zi x) :: st) h Q := by
  by_cases hc : 0 < x
  · exact xv (x_if_gt t n hd ht hn h1 h2 (fun _ => rfl) (fun k => absurd hc k)) (kt hc)
  · exact xv (x_if_gt t n hd ht hn h1 h2 (fun k => absurd k hc) (fun _ => rfl)) (kf hc)
theorem v_icmp_le (t n : Nat) {off : Int} (hd : decode M.2.1 pc = .ok (.if_icmp .le off, 3)) (ht : q_tgt pc off = some t) (hn : pc + 3 = n) (h1 : -2147483648 ≤ x) (h2 : x < 2147483648) (h3 : -2147483648 ≤ y) (h4 : y < 2147483648) (kt : x ≤ y → Xv E M t ls st h Q) (kf : ¬ (x ≤ y) → Xv E M n ls st h Q) : Xv E M pc ls (.int (zi y) :: .int (zi x) :: st) h Q := by
  by_cases hc : x ≤ y
  · exact xv (x_icmp_le t n hd ht hn h1 h2 h3 h4 (fun _ => rfl) (fun k => absurd hc k)) (kt hc)
  · exact xv (x_icmp_le t n hd ht hn h1 h2 h3 h4 (fun k => absurd k hc) (fun _ => rfl)) (kf hc)
theorem v_if_le (t n : Nat) {off : Int} (hd : decode M.2.1 pc = .ok (.ifCond .le off, 3)) (ht : q_tgt pc off = some t) (hn : pc + 3 = n) (h1 : -2147483648 ≤ x) (h2 : x < 2147483648) (kt : x ≤ 0 → Xv E M t ls st h Q) (kf : ¬ (x ≤ 0) → Xv E M n ls st h Q) : Xv E M pc ls (.int (zi x) :: st) h Q := by
  by_cases hc : x ≤ 0
  · exact xv (x_if_le t n hd ht hn h1 h2 (fun _ => rfl) (fun k => absurd hc k)) (kt hc)
  · exact xv (x_if_le t n hd ht hn h1 h2 (fun k => absurd k hc) (fun _ => rfl)) (kf hc)
end XV
/-! frames -/
def Fr (b n : Nat) (h h' : q_H) : Prop := h'.2 = h.2 ∧ ∀ a, a < b ∨ b + n ≤ a → h'.1 a = h.1 a
section FR
variable {h h' h'' : q_H} {a b n b' n' t : Nat} {f f' : Int → Int} {e : va_E} {z v : Int}
theorem fr_rf : Fr b n h h := ⟨rfl, fun _ _ => rfl⟩
theorem fr_tr (h1 : Fr b n h h') (h2 : Fr b n h' h'') : Fr b n h h'' := ⟨h2.1.trans h1.1, fun a k => (h2.2 a k).trans (h1.2 a k)⟩
theorem fr_in (h1 : Fr b n h h') (k1 : b' ≤ b) (k2 : b + n ≤ b' + n') : Fr b' n' h h' := ⟨h1.1, fun a k => h1.2 a (by omega)⟩
theorem fr_up : Fr a 1 h (q_up h a e) := ⟨rfl, fun c k => q_up_ne (by omega)⟩
/-- a row of n ints (t: of which kind) whose places are f's -/
def AI (h : q_H) (a t n : Nat) (f : Int → Int) : Prop := ∃ g : Nat → Int32, h.1 a = some (.inl (t, n, .inl g)) ∧ ∀ k : Nat, k < n → g k = zi (f k)
theorem ai_fr (H : AI h a t n f) (F : Fr b n' h h') (k : a < b ∨ b + n' ≤ a) : AI h' a t n f := by
  obtain ⟨g, h1, h2⟩ := H
  exact ⟨g, (F.2 a k).trans h1, h2⟩
theorem ai_cg (H : AI h a t n f) (k : ∀ i : Int, 0 ≤ i → i < n → f i = f' i) : AI h a t n f' := by
  obtain ⟨g, h1, h2⟩ := H
  exact ⟨g, h1, fun i hi => (h2 i hi).trans (congrArg zi (k i (by omega) (by omega)))⟩
theorem ai_g {E : q_E} {ty : FieldType} (H : AI h a t n f) (h1 : 0 ≤ z) (h2 : z < n) (hn : n < 2147483648) : q_gI E h t ty a (zi z) = some (.int (zi (f z))) := by
  obtain ⟨g, e1, e2⟩ := H
  rw [q_gI_of e1 h1 h2 hn, e2 _ (by omega), Int.toNat_of_nonneg h1]
theorem ai_b {E : q_E} (H : AI h a 2 n f) (h1 : 0 ≤ z) (h2 : z < n) (hn : n < 2147483648) : q_gB E h a (zi z) = some (.int (zi (f z))) := by
  obtain ⟨g, e1, e2⟩ := H
  rw [q_gB_of e1 h1 h2 hn, e2 _ (by omega), Int.toNat_of_nonneg h1]
theorem ai_l {E : q_E} (H : AI h a t n f) (ht : t ≤ 8) : q_len E h a = some (zi n) := by
  obtain ⟨g, e1, e2⟩ := H
  exact q_len_of e1 ht
theorem ai_s (H : AI h a t n f) (h1 : 0 ≤ z) (h2 : z < n) (hn : n < 2147483648) : ∃ h', q_sI h t a (zi z) (zi v) = some h' ∧ AI h' a t n (u1 f z v) ∧ Fr a 1 h h' := by
  obtain ⟨g, e1, e2⟩ := H
  refine ⟨_, q_sI_of e1 h1 h2 hn, ⟨_, q_up_eq, fun k hk => ?_⟩, fr_up⟩
  show (if k = z.toNat then zi v else g k) = zi (if (k : Int) = z then v else f k)
  by_cases hz : k = z.toNat
  · rw [if_pos hz, if_pos (by omega)]
  · rw [if_neg hz, if_neg (by omega), e2 k hk]
/-- a part of a row laid into another -/
theorem ai_c {E : q_E} {n0 : Nat} {sp dp m : Int} (H0 : AI h b 0 n0 f') (H : AI h a 0 n f) (e1 : 0 ≤ sp) (e2 : 0 ≤ dp) (e3 : 0 ≤ m) (e4 : sp + m ≤ n0) (e5 : dp + m ≤ n) (e6 : n0 < 2147483648) (e7 : n < 2147483648) : ∃ h', q_cpy E h b (zi sp) a (zi dp) (zi m) = some h' ∧ AI h' a 0 n (cpI f' f sp dp m) ∧ Fr a 1 h h' := by
  obtain ⟨g0, a1, a2⟩ := H0
  obtain ⟨g, b1, b2⟩ := H
  refine ⟨_, q_cpy_I a1 b1 e1 e2 e3 e4 e5 e6 e7, ⟨_, q_up_eq, fun k hk => ?_⟩, fr_up⟩
  show (if dp.toNat ≤ k ∧ k < dp.toNat + m.toNat then g0 (sp.toNat + (k - dp.toNat)) else g k) = zi (if dp ≤ (k : Int) ∧ (k : Int) < dp + m then f' (sp + (k - dp)) else f k)
  by_cases hz : dp.toNat ≤ k ∧ k < dp.toNat + m.toNat
  · rw [if_pos hz, if_pos (by omega), a2 _ (by omega), show ((sp.toNat + (k - dp.toNat) : Nat) : Int) = sp + (k - dp) by omega]
  · rw [if_neg hz, if_neg (by omega), b2 k hk]
/-- a row of booleans laid into another, whole -/
theorem ai_cz {E : q_E} (H0 : AI h b 2 n f') (H : AI h a 2 n f) (hf : ∀ i, 0 ≤ i → i < n → f' i = 0 ∨ f' i = 1) (e7 : n < 2147483648) : ∃ h', q_cpy E h b (zi 0) a (zi 0) (zi n) = some h' ∧ AI h' a 2 n f' ∧ Fr a 1 h h' := by
  obtain ⟨g0, a1, a2⟩ := H0
  obtain ⟨g, b1, b2⟩ := H
  have en : (zi n).toNatClampNeg = n := by rw [zi_nat (by omega) (by omega)]; omega
  have e0 : (zi 0).toNatClampNeg = 0 := by rw [zi_nat (by omega) (by omega)]; omega
  have nn : ∀ z : Int, 0 ≤ z → z < 2147483648 → ¬ zi z < 0 := fun z k1 k2 => by
    rw [show (0 : Int32) = zi 0 from rfl, zi_lt (by omega) (by omega) (by omega) (by omega)]
    omega
  have hb : ∀ i, i < n → fits .boolean (.int (g0 i)) = true := fun i hi => by
    rw [a2 i hi]
    rcases hf i (by omega) (by omega) with e | e
    · rw [e]; rfl
    · rw [e]; rfl
  refine ⟨q_up h a (.inl (2, n, .inl (va_cpy g0 g 0 0 n))), ?_, ⟨_, q_up_eq, fun k hk => ?_⟩, fr_up⟩
  · unfold q_cpy
    rw [a1, b1]
    simp only
    rw [if_pos ⟨⟨trivial, Or.inr (Or.inl trivial)⟩, ⟨⟨nn _ (by omega) (by omega), nn _ (by omega) (by omega), nn _ (by omega) (by omega)⟩, by omega, by omega⟩, fun _ i hi => hb _ (by omega), fun k => absurd k (by decide)⟩, en, e0]
  · show (if 0 ≤ k ∧ k < 0 + n then g0 (0 + (k - 0)) else g k) = _
    rw [if_pos (by omega), a2 _ (by omega), show 0 + (k - 0) = k by omega]
end FR
