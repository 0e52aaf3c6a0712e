/-! the class's objects: a robot, an order, a warehouse, as one row of ints in the reference's order -/
/-- a robot at a, and its path behind it -/
def RB (h : q_H) (a : Nat) (f : Int → Int) : Prop := h.1 a = some (.inr (5, [.int (zi (f 0)), .int (zi (f 1)), .int (zi (f 2)), .int (zi (f 5)), .int (zi (f 3)), .int (zi (f 4)), .ref (a + 1)])) ∧ AI h (a + 1) 0 30 (fun k => f (6 + k))
def OB (h : q_H) (a : Nat) (f : Int → Int) : Prop := h.1 a = some (.inr (3, [.int (zi (f 0)), .int (zi (f 1)), .int (zi (f 2)), .int (zi (f 4)), .ref (a + 1)])) ∧ AI h (a + 1) 0 3 (fun k => f (5 + k))
section RBX
variable {h h' : q_H} {a b n : Nat} {f f' : Int → Int} {z v : Int}
theorem rb_fr (H : RB h a f) (F : Fr b n h h') (k : a + 2 ≤ b ∨ b + n ≤ a) : RB h' a f := ⟨(F.2 a (by omega)).trans H.1, ai_fr H.2 F (by omega)⟩
theorem ob_fr (H : OB h a f) (F : Fr b n h h') (k : a + 2 ≤ b ∨ b + n ≤ a) : OB h' a f := ⟨(F.2 a (by omega)).trans H.1, ai_fr H.2 F (by omega)⟩
theorem rb_cg (H : RB h a f) (k : ∀ i, 0 ≤ i → i < 36 → f i = f' i) : RB h a f' := by
  refine ⟨H.1.trans ?_, ai_cg H.2 fun i h1 h2 => k _ (by omega) (by omega)⟩
  rw [k 0 (by omega) (by omega), k 1 (by omega) (by omega), k 2 (by omega) (by omega), k 3 (by omega) (by omega), k 4 (by omega) (by omega), k 5 (by omega) (by omega)]
theorem ob_cg (H : OB h a f) (k : ∀ i, 0 ≤ i → i < 8 → i ≠ 3 → f i = f' i) : OB h a f' := by
  refine ⟨H.1.trans ?_, ai_cg H.2 fun i h1 h2 => k _ (by omega) (by omega) (by omega)⟩
  rw [k 0 (by omega) (by omega) (by omega), k 1 (by omega) (by omega) (by omega), k 2 (by omega) (by omega) (by omega), k 4 (by omega) (by omega) (by omega)]
theorem rb_pf0 (H : RB h a f) : ∃ h', q_pf h a 5 0 (.int (zi v)) = some h' ∧ RB h' a (u1 f 0 v) ∧ Fr a 2 h h' := ⟨_, q_pf_of H.1 (Nat.le_of_ble_eq_true rfl), ⟨q_up_eq, ai_cg (ai_fr H.2 fr_up (by omega)) fun i h1 h2 => (u1_ne (by omega)).symm⟩, fr_in fr_up (by omega) (by omega)⟩
theorem rb_pf1 (H : RB h a f) : ∃ h', q_pf h a 5 1 (.int (zi v)) = some h' ∧ RB h' a (u1 f 1 v) ∧ Fr a 2 h h' := ⟨_, q_pf_of H.1 (Nat.le_of_ble_eq_true rfl), ⟨q_up_eq, ai_cg (ai_fr H.2 fr_up (by omega)) fun i h1 h2 => (u1_ne (by omega)).symm⟩, fr_in fr_up (by omega) (by omega)⟩
theorem rb_pf2 (H : RB h a f) : ∃ h', q_pf h a 5 2 (.int (zi v)) = some h' ∧ RB h' a (u1 f 2 v) ∧ Fr a 2 h h' := ⟨_, q_pf_of H.1 (Nat.le_of_ble_eq_true rfl), ⟨q_up_eq, ai_cg (ai_fr H.2 fr_up (by omega)) fun i h1 h2 => (u1_ne (by omega)).symm⟩, fr_in fr_up (by omega) (by omega)⟩
theorem rb_pf3 (H : RB h a f) : ∃ h', q_pf h a 5 3 (.int (zi v)) = some h' ∧ RB h' a (u1 f 5 v) ∧ Fr a 2 h h' := ⟨_, q_pf_of H.1 (Nat.le_of_ble_eq_true rfl), ⟨q_up_eq, ai_cg (ai_fr H.2 fr_up (by omega)) fun i h1 h2 => (u1_ne (by omega)).symm⟩, fr_in fr_up (by omega) (by omega)⟩
theorem rb_pf4 (H : RB h a f) : ∃ h', q_pf h a 5 4 (.int (zi v)) = some h' ∧ RB h' a (u1 f 3 v) ∧ Fr a 2 h h' := ⟨_, q_pf_of H.1 (Nat.le_of_ble_eq_true rfl), ⟨q_up_eq, ai_cg (ai_fr H.2 fr_up (by omega)) fun i h1 h2 => (u1_ne (by omega)).symm⟩, fr_in fr_up (by omega) (by omega)⟩
theorem rb_pf5 (H : RB h a f) : ∃ h', q_pf h a 5 5 (.int (zi v)) = some h' ∧ RB h' a (u1 f 4 v) ∧ Fr a 2 h h' := ⟨_, q_pf_of H.1 (Nat.le_of_ble_eq_true rfl), ⟨q_up_eq, ai_cg (ai_fr H.2 fr_up (by omega)) fun i h1 h2 => (u1_ne (by omega)).symm⟩, fr_in fr_up (by omega) (by omega)⟩
theorem ob_pf0 (H : OB h a f) : ∃ h', q_pf h a 3 0 (.int (zi v)) = some h' ∧ OB h' a (u1 f 0 v) ∧ Fr a 2 h h' := ⟨_, q_pf_of H.1 (Nat.le_of_ble_eq_true rfl), ⟨q_up_eq, ai_cg (ai_fr H.2 fr_up (by omega)) fun i h1 h2 => (u1_ne (by omega)).symm⟩, fr_in fr_up (by omega) (by omega)⟩
theorem ob_pf1 (H : OB h a f) : ∃ h', q_pf h a 3 1 (.int (zi v)) = some h' ∧ OB h' a (u1 f 1 v) ∧ Fr a 2 h h' := ⟨_, q_pf_of H.1 (Nat.le_of_ble_eq_true rfl), ⟨q_up_eq, ai_cg (ai_fr H.2 fr_up (by omega)) fun i h1 h2 => (u1_ne (by omega)).symm⟩, fr_in fr_up (by omega) (by omega)⟩
theorem ob_pf2 (H : OB h a f) : ∃ h', q_pf h a 3 2 (.int (zi v)) = some h' ∧ OB h' a (u1 f 2 v) ∧ Fr a 2 h h' := ⟨_, q_pf_of H.1 (Nat.le_of_ble_eq_true rfl), ⟨q_up_eq, ai_cg (ai_fr H.2 fr_up (by omega)) fun i h1 h2 => (u1_ne (by omega)).symm⟩, fr_in fr_up (by omega) (by omega)⟩
theorem ob_pf3 (H : OB h a f) : ∃ h', q_pf h a 3 3 (.int (zi v)) = some h' ∧ OB h' a (u1 f 4 v) ∧ Fr a 2 h h' := ⟨_, q_pf_of H.1 (Nat.le_of_ble_eq_true rfl), ⟨q_up_eq, ai_cg (ai_fr H.2 fr_up (by omega)) fun i h1 h2 => (u1_ne (by omega)).symm⟩, fr_in fr_up (by omega) (by omega)⟩
theorem rb_ps (H : RB h a f) (h1 : 0 ≤ z) (h2 : z < 30) : ∃ h', q_sI h 0 (a + 1) (zi z) (zi v) = some h' ∧ RB h' a (u1 f (6 + z) v) ∧ Fr a 2 h h' := by
  obtain ⟨h', e, A, F⟩ := ai_s (v := v) H.2 h1 h2 (by decide)
  refine ⟨h', e, ⟨?_, ai_cg A fun i k1 k2 => ?_⟩, fr_in F (by omega) (by omega)⟩
  · rw [F.2 a (by omega), H.1, u1_ne (by omega), u1_ne (by omega), u1_ne (by omega), u1_ne (by omega), u1_ne (by omega), u1_ne (by omega)]
  · show (if i = z then v else f (6 + i)) = (if 6 + i = 6 + z then v else f (6 + i))
    by_cases q : i = z
    · rw [if_pos q, if_pos (by omega)]
    · rw [if_neg q, if_neg (by omega)]
theorem ob_ls (H : OB h a f) (h1 : 0 ≤ z) (h2 : z < 3) : ∃ h', q_sI h 0 (a + 1) (zi z) (zi v) = some h' ∧ OB h' a (u1 f (5 + z) v) ∧ Fr a 2 h h' := by
  obtain ⟨h', e, A, F⟩ := ai_s (v := v) H.2 h1 h2 (by decide)
  refine ⟨h', e, ⟨?_, ai_cg A fun i k1 k2 => ?_⟩, fr_in F (by omega) (by omega)⟩
  · rw [F.2 a (by omega), H.1, u1_ne (by omega), u1_ne (by omega), u1_ne (by omega), u1_ne (by omega)]
  · show (if i = z then v else f (5 + i)) = (if 5 + i = 5 + z then v else f (5 + i))
    by_cases q : i = z
    · rw [if_pos q, if_pos (by omega)]
    · rw [if_neg q, if_neg (by omega)]
end RBX
def oa (w : Nat) (o : Int) : Nat := w + 17 + 2 * o.toNat
def PM (w : Nat) (p : Int → Nat) : Prop := (∀ r, 0 ≤ r → r < 6 → ∃ q, q < 6 ∧ p r = w + 4 + 2 * q) ∧ ∀ r r', 0 ≤ r → r < 6 → 0 ≤ r' → r' < 6 → p r = p r' → r = r'
/-- the class's warehouse at w, 38 places; p: where its robots lie -/
def WH (h : q_H) (w : Nat) (l : Int → Int) (p : Int → Nat) : Prop :=
  PM w p ∧ h.1 w = some (.inr (6, [.int (zi (l 0)), .int (zi (l 1)), .int (zi (l 2)), .int (zi (l 3)), .int (zi (l 4)), .ref (w + 1), .ref (w + 2), .ref (w + 3), .ref (w + 16), .ref (w + 37)])) ∧
  AI h (w + 1) 0 48 (fun k => l (8 + k)) ∧ AI h (w + 2) 2 48 (fun k => l (56 + k)) ∧ AI h (w + 37) 0 3 (fun k => l (5 + k)) ∧
  (∃ g : Nat → Option Nat, h.1 (w + 3) = some (.inl (5, 6, .inr (.inr (.inr (.inr g))))) ∧ ∀ r : Nat, r < 6 → g r = some (p r)) ∧
  (∃ g : Nat → Option Nat, h.1 (w + 16) = some (.inl (6, 10, .inr (.inr (.inr (.inr g))))) ∧ ∀ o : Nat, o < 10 → g o = some (oa w o)) ∧
  (∀ r, 0 ≤ r → r < 6 → RB h (p r) (rb l r)) ∧ ∀ o, 0 ≤ o → o < 10 → OB h (oa w o) (ob l o)
section WHX
variable {h h' : q_H} {w b n : Nat} {l l' : Int → Int} {p : Int → Nat} {z v r o : Int} {f : Int → Int}
theorem wh_pm (H : WH h w l p) : PM w p := H.1
theorem wh_o (H : WH h w l p) : h.1 w = some (.inr (6, [.int (zi (l 0)), .int (zi (l 1)), .int (zi (l 2)), .int (zi (l 3)), .int (zi (l 4)), .ref (w + 1), .ref (w + 2), .ref (w + 3), .ref (w + 16), .ref (w + 37)])) := H.2.1
theorem wh_k (H : WH h w l p) : AI h (w + 1) 0 48 (fun k => l (8 + k)) := H.2.2.1
theorem wh_c (H : WH h w l p) : AI h (w + 2) 2 48 (fun k => l (56 + k)) := H.2.2.2.1
theorem wh_s (H : WH h w l p) : AI h (w + 37) 0 3 (fun k => l (5 + k)) := H.2.2.2.2.1
theorem wh_r (H : WH h w l p) (h1 : 0 ≤ r) (h2 : r < 6) : RB h (p r) (rb l r) := H.2.2.2.2.2.2.2.1 r h1 h2
theorem wh_ob (H : WH h w l p) (h1 : 0 ≤ o) (h2 : o < 10) : OB h (oa w o) (ob l o) := H.2.2.2.2.2.2.2.2 o h1 h2
theorem wh_rs (H : WH h w l p) (h1 : 0 ≤ r) (h2 : r < 6) : q_gQ h (w + 3) (zi r) = some (.ref (p r)) := by
  obtain ⟨g, e, k⟩ := H.2.2.2.2.2.1
  have := k r.toNat (by omega)
  rw [Int.toNat_of_nonneg h1] at this
  exact q_gQ_of e (by omega) h1 h2 (by decide) this
theorem wh_os (H : WH h w l p) (h1 : 0 ≤ o) (h2 : o < 10) : q_gQ h (w + 16) (zi o) = some (.ref (oa w o)) := by
  obtain ⟨g, e, k⟩ := H.2.2.2.2.2.2.1
  have := k o.toNat (by omega)
  rw [Int.toNat_of_nonneg h1] at this
  exact q_gQ_of e (by omega) h1 h2 (by decide) this
theorem wh_rl (H : WH h w l p) {E : q_E} : q_len E h (w + 3) = some (zi 6) := by
  obtain ⟨g, e, k⟩ := H.2.2.2.2.2.1
  exact q_len_of e (by decide)
theorem wh_pb (H : PM w p) (h1 : 0 ≤ r) (h2 : r < 6) : w + 4 ≤ p r ∧ p r + 2 ≤ w + 16 := by
  obtain ⟨q, a, b⟩ := H.1 r h1 h2
  omega
theorem wh_pn (H : PM w p) {r r' : Int} (h1 : 0 ≤ r) (h2 : r < 6) (h3 : 0 ≤ r') (h4 : r' < 6) (k : r ≠ r') : p r + 2 ≤ p r' ∨ p r' + 2 ≤ p r := by
  obtain ⟨q, a, b⟩ := H.1 r h1 h2
  obtain ⟨q', a', b'⟩ := H.1 r' h3 h4
  have : p r ≠ p r' := fun e => k (H.2 r r' h1 h2 h3 h4 e)
  omega
theorem oa_b (h1 : 0 ≤ o) (h2 : o < 10) : w + 17 ≤ oa w o ∧ oa w o + 2 ≤ w + 37 := by
  unfold oa
  omega
/-- what is written anew: some of the parts -/
theorem wh_fr (H : WH h w l p) (F : Fr b n h h') (k : w + 38 ≤ b ∨ b + n ≤ w) : WH h' w l p := by
  obtain ⟨h0, h1, h2, h3, h4, ⟨g, h5, h5'⟩, ⟨g', h6, h6'⟩, h7, h8⟩ := H
  refine ⟨h0, (F.2 _ (by omega)).trans h1, ai_fr h2 F (by omega), ai_fr h3 F (by omega), ai_fr h4 F (by omega), ⟨g, (F.2 _ (by omega)).trans h5, h5'⟩, ⟨g', (F.2 _ (by omega)).trans h6, h6'⟩, fun r k1 k2 => ?_, fun o k1 k2 => ?_⟩
  · have := wh_pb h0 k1 k2
    exact rb_fr (h7 r k1 k2) F (by omega)
  · have := oa_b (w := w) k1 k2
    exact ob_fr (h8 o k1 k2) F (by omega)
theorem rb_u {k : Int} (h1 : 0 ≤ r) (h2 : r < 6) (hk : k < 104 ∨ 320 ≤ k) : ∀ i, 0 ≤ i → i < 36 → rb l r i = rb (u1 l k v) r i := fun i k1 k2 => (u1_ne (i := 104 + 36 * r + i) (by omega)).symm
theorem ob_u {k : Int} (h1 : 0 ≤ o) (hk : k < 320) : ∀ i, 0 ≤ i → i < 8 → i ≠ 3 → ob l o i = ob (u1 l k v) o i := fun i k1 k2 _ => (u1_ne (i := 320 + 8 * o + i) (by omega)).symm
/-- a robot's row laid into the warehouse's -/
def rset (l : Int → Int) (r : Int) (f : Int → Int) : Int → Int := fun i => if 104 + 36 * r ≤ i ∧ i < 140 + 36 * r then f (i - (104 + 36 * r)) else l i
def oset (l : Int → Int) (o : Int) (f : Int → Int) : Int → Int := fun i => if 320 + 8 * o ≤ i ∧ i < 328 + 8 * o then f (i - (320 + 8 * o)) else l i
theorem rset_eq {k : Int} (h1 : 0 ≤ k) (h2 : k < 36) : rb (rset l r f) r k = f k := by
  show (if 104 + 36 * r ≤ 104 + 36 * r + k ∧ 104 + 36 * r + k < 140 + 36 * r then f (104 + 36 * r + k - (104 + 36 * r)) else _) = f k
  rw [if_pos (by omega), show 104 + 36 * r + k - (104 + 36 * r) = k by omega]
theorem rset_ne {r' k : Int} (h1 : 0 ≤ k) (h2 : k < 36) (h : r' ≠ r) : rb (rset l r f) r' k = rb l r' k := if_neg (by omega)
theorem rset_o {k : Int} (h : k < 104 + 36 * r ∨ 140 + 36 * r ≤ k) : rset l r f k = l k := if_neg (by omega)
theorem rset_u {k : Int} (h1 : 0 ≤ k) (h2 : k < 36) : rset l r (u1 (rb l r) k v) = u1 l (104 + 36 * r + k) v := by
  funext i
  show (if 104 + 36 * r ≤ i ∧ i < 140 + 36 * r then (if i - (104 + 36 * r) = k then v else l (104 + 36 * r + (i - (104 + 36 * r)))) else l i) = if i = 104 + 36 * r + k then v else l i
  by_cases q : 104 + 36 * r ≤ i ∧ i < 140 + 36 * r
  · rw [if_pos q, show 104 + 36 * r + (i - (104 + 36 * r)) = i by omega]
    by_cases q2 : i - (104 + 36 * r) = k
    · rw [if_pos q2, if_pos (by omega)]
    · rw [if_neg q2, if_neg (by omega)]
  · rw [if_neg q, if_neg (by omega)]
theorem oset_eq {k : Int} (h1 : 0 ≤ k) (h2 : k < 8) : ob (oset l o f) o k = f k := by
  show (if 320 + 8 * o ≤ 320 + 8 * o + k ∧ 320 + 8 * o + k < 328 + 8 * o then f (320 + 8 * o + k - (320 + 8 * o)) else _) = f k
  rw [if_pos (by omega), show 320 + 8 * o + k - (320 + 8 * o) = k by omega]
theorem oset_ne {o' k : Int} (h1 : 0 ≤ k) (h2 : k < 8) (h : o' ≠ o) : ob (oset l o f) o' k = ob l o' k := if_neg (by omega)
theorem oset_o {k : Int} (h : k < 320 + 8 * o ∨ 328 + 8 * o ≤ k) : oset l o f k = l k := if_neg (by omega)
theorem oset_u {k : Int} (h1 : 0 ≤ k) (h2 : k < 8) : oset l o (u1 (ob l o) k v) = u1 l (320 + 8 * o + k) v := by
  funext i
  show (if 320 + 8 * o ≤ i ∧ i < 328 + 8 * o then (if i - (320 + 8 * o) = k then v else l (320 + 8 * o + (i - (320 + 8 * o)))) else l i) = if i = 320 + 8 * o + k then v else l i
  by_cases q : 320 + 8 * o ≤ i ∧ i < 328 + 8 * o
  · rw [if_pos q, show 320 + 8 * o + (i - (320 + 8 * o)) = i by omega]
    by_cases q2 : i - (320 + 8 * o) = k
    · rw [if_pos q2, if_pos (by omega)]
    · rw [if_neg q2, if_neg (by omega)]
  · rw [if_neg q, if_neg (by omega)]
/-- a robot of the warehouse has a new row -/
theorem wh_rw (H : WH h w l p) (h1 : 0 ≤ r) (h2 : r < 6) (A : RB h' (p r) f) (F : Fr (p r) 2 h h') : WH h' w (rset l r f) p ∧ Fr w 38 h h' := by
  obtain ⟨k0, k1, k2, k3, k4, ⟨g, k5, k5'⟩, ⟨g', k6, k6'⟩, k7, k8⟩ := H
  have hb := wh_pb k0 h1 h2
  refine ⟨⟨k0, ?_, ?_, ?_, ?_, ⟨g, (F.2 _ (by omega)).trans k5, k5'⟩, ⟨g', (F.2 _ (by omega)).trans k6, k6'⟩, fun r' j1 j2 => ?_, fun o j1 j2 => ?_⟩, fr_in F (by omega) (by omega)⟩
  · rw [F.2 _ (by omega), k1, rset_o (by omega), rset_o (by omega), rset_o (by omega), rset_o (by omega), rset_o (by omega)]
  · exact ai_cg (ai_fr k2 F (by omega)) fun i j1 j2 => (rset_o (by omega)).symm
  · exact ai_cg (ai_fr k3 F (by omega)) fun i j1 j2 => (rset_o (by omega)).symm
  · exact ai_cg (ai_fr k4 F (by omega)) fun i j1 j2 => (rset_o (by omega)).symm
  · by_cases q : r' = r
    · subst q
      exact rb_cg A fun i j1 j2 => (rset_eq j1 j2).symm
    · have := wh_pn k0 h1 h2 j1 j2 (Ne.symm q)
      exact rb_cg (rb_fr (k7 r' j1 j2) F (by omega)) fun i j1 j2 => (rset_ne j1 j2 q).symm
  · have := oa_b (w := w) j1 j2
    exact ob_cg (ob_fr (k8 o j1 j2) F (by omega)) fun i j1 j2 _ => (rset_o (k := 320 + 8 * o + i) (by omega)).symm
theorem wh_ow (H : WH h w l p) (h1 : 0 ≤ o) (h2 : o < 10) (A : OB h' (oa w o) f) (F : Fr (oa w o) 2 h h') : WH h' w (oset l o f) p ∧ Fr w 38 h h' := by
  obtain ⟨k0, k1, k2, k3, k4, ⟨g, k5, k5'⟩, ⟨g', k6, k6'⟩, k7, k8⟩ := H
  have hb := oa_b (w := w) h1 h2
  refine ⟨⟨k0, ?_, ?_, ?_, ?_, ⟨g, (F.2 _ (by omega)).trans k5, k5'⟩, ⟨g', (F.2 _ (by omega)).trans k6, k6'⟩, fun r' j1 j2 => ?_, fun o' j1 j2 => ?_⟩, fr_in F (by omega) (by omega)⟩
  · rw [F.2 _ (by omega), k1, oset_o (by omega), oset_o (by omega), oset_o (by omega), oset_o (by omega), oset_o (by omega)]
  · exact ai_cg (ai_fr k2 F (by omega)) fun i j1 j2 => (oset_o (by omega)).symm
  · exact ai_cg (ai_fr k3 F (by omega)) fun i j1 j2 => (oset_o (by omega)).symm
  · exact ai_cg (ai_fr k4 F (by omega)) fun i j1 j2 => (oset_o (by omega)).symm
  · have := wh_pb k0 j1 j2
    exact rb_cg (rb_fr (k7 r' j1 j2) F (by omega)) fun i j1 j2 => (oset_o (k := 104 + 36 * r' + i) (by omega)).symm
  · by_cases q : o' = o
    · subst q
      exact ob_cg A fun i j1 j2 _ => (oset_eq j1 j2).symm
    · have e : oa w o' + 2 ≤ oa w o ∨ oa w o + 2 ≤ oa w o' := by unfold oa; omega
      exact ob_cg (ob_fr (k8 o' j1 j2) F e) fun i j1 j2 _ => (oset_ne j1 j2 q).symm
/-- a new row of ints whose parts outside some places are the old ones -/
theorem wh_cg (H : WH h w l p) (k : ∀ i, 0 ≤ i → i < 400 → ¬ (323 ≤ i ∧ i % 8 = 3) → l i = l' i) : WH h w l' p := by
  obtain ⟨k0, k1, k2, k3, k4, k5, k6, k7, k8⟩ := H
  refine ⟨k0, ?_, ai_cg k2 fun i j1 j2 => k _ (by omega) (by omega) (by omega), ai_cg k3 fun i j1 j2 => k _ (by omega) (by omega) (by omega), ai_cg k4 fun i j1 j2 => k _ (by omega) (by omega) (by omega), k5, k6, fun r' j1 j2 => rb_cg (k7 r' j1 j2) fun i q1 q2 => k _ (by omega) (by omega) (by omega), fun o' j1 j2 => ob_cg (k8 o' j1 j2) fun i q1 q2 q3 => k _ (by omega) (by omega) (by omega)⟩
  rw [k1, k 0 (by omega) (by omega) (by omega), k 1 (by omega) (by omega) (by omega), k 2 (by omega) (by omega) (by omega), k 3 (by omega) (by omega) (by omega), k 4 (by omega) (by omega) (by omega)]
theorem wh_pf0 (H : WH h w l p) : ∃ h', q_pf h w 6 0 (.int (zi v)) = some h' ∧ WH h' w (u1 l 0 v) p ∧ Fr w 38 h h' := by
  obtain ⟨k0, k1, k2, k3, k4, ⟨g, k5, k5'⟩, ⟨g', k6, k6'⟩, k7, k8⟩ := H
  have F : Fr w 1 h (q_up h w (.inr (6, [.int (zi (l 0)), .int (zi (l 1)), .int (zi (l 2)), .int (zi (l 3)), .int (zi (l 4)), .ref (w + 1), .ref (w + 2), .ref (w + 3), .ref (w + 16), .ref (w + 37)].set 0 (.int (zi v))))) := fr_up
  refine ⟨_, q_pf_of k1 (Nat.le_of_ble_eq_true rfl), ⟨k0, q_up_eq, ai_cg (ai_fr k2 F (by omega)) fun i j1 j2 => (u1_ne (by omega)).symm, ai_cg (ai_fr k3 F (by omega)) fun i j1 j2 => (u1_ne (by omega)).symm, ai_cg (ai_fr k4 F (by omega)) fun i j1 j2 => (u1_ne (by omega)).symm, ⟨g, (F.2 _ (by omega)).trans k5, k5'⟩, ⟨g', (F.2 _ (by omega)).trans k6, k6'⟩, fun r' j1 j2 => ?_, fun o' j1 j2 => ?_⟩, fr_in F (by omega) (by omega)⟩
  · have := wh_pb k0 j1 j2
    exact rb_cg (rb_fr (k7 r' j1 j2) F (by omega)) (rb_u j1 j2 (by omega))
  · have := oa_b (w := w) j1 j2
    exact ob_cg (ob_fr (k8 o' j1 j2) F (by omega)) (ob_u j1 (by omega))
theorem wh_pf1 (H : WH h w l p) : ∃ h', q_pf h w 6 1 (.int (zi v)) = some h' ∧ WH h' w (u1 l 1 v) p ∧ Fr w 38 h h' := by
  obtain ⟨k0, k1, k2, k3, k4, ⟨g, k5, k5'⟩, ⟨g', k6, k6'⟩, k7, k8⟩ := H
  have F : Fr w 1 h (q_up h w (.inr (6, [.int (zi (l 0)), .int (zi (l 1)), .int (zi (l 2)), .int (zi (l 3)), .int (zi (l 4)), .ref (w + 1), .ref (w + 2), .ref (w + 3), .ref (w + 16), .ref (w + 37)].set 1 (.int (zi v))))) := fr_up
  refine ⟨_, q_pf_of k1 (Nat.le_of_ble_eq_true rfl), ⟨k0, q_up_eq, ai_cg (ai_fr k2 F (by omega)) fun i j1 j2 => (u1_ne (by omega)).symm, ai_cg (ai_fr k3 F (by omega)) fun i j1 j2 => (u1_ne (by omega)).symm, ai_cg (ai_fr k4 F (by omega)) fun i j1 j2 => (u1_ne (by omega)).symm, ⟨g, (F.2 _ (by omega)).trans k5, k5'⟩, ⟨g', (F.2 _ (by omega)).trans k6, k6'⟩, fun r' j1 j2 => ?_, fun o' j1 j2 => ?_⟩, fr_in F (by omega) (by omega)⟩
  · have := wh_pb k0 j1 j2
    exact rb_cg (rb_fr (k7 r' j1 j2) F (by omega)) (rb_u j1 j2 (by omega))
  · have := oa_b (w := w) j1 j2
    exact ob_cg (ob_fr (k8 o' j1 j2) F (by omega)) (ob_u j1 (by omega))
theorem wh_pf2 (H : WH h w l p) : ∃ h', q_pf h w 6 2 (.int (zi v)) = some h' ∧ WH h' w (u1 l 2 v) p ∧ Fr w 38 h h' := by
  obtain ⟨k0, k1, k2, k3, k4, ⟨g, k5, k5'⟩, ⟨g', k6, k6'⟩, k7, k8⟩ := H
  have F : Fr w 1 h (q_up h w (.inr (6, [.int (zi (l 0)), .int (zi (l 1)), .int (zi (l 2)), .int (zi (l 3)), .int (zi (l 4)), .ref (w + 1), .ref (w + 2), .ref (w + 3), .ref (w + 16), .ref (w + 37)].set 2 (.int (zi v))))) := fr_up
  refine ⟨_, q_pf_of k1 (Nat.le_of_ble_eq_true rfl), ⟨k0, q_up_eq, ai_cg (ai_fr k2 F (by omega)) fun i j1 j2 => (u1_ne (by omega)).symm, ai_cg (ai_fr k3 F (by omega)) fun i j1 j2 => (u1_ne (by omega)).symm, ai_cg (ai_fr k4 F (by omega)) fun i j1 j2 => (u1_ne (by omega)).symm, ⟨g, (F.2 _ (by omega)).trans k5, k5'⟩, ⟨g', (F.2 _ (by omega)).trans k6, k6'⟩, fun r' j1 j2 => ?_, fun o' j1 j2 => ?_⟩, fr_in F (by omega) (by omega)⟩
  · have := wh_pb k0 j1 j2
    exact rb_cg (rb_fr (k7 r' j1 j2) F (by omega)) (rb_u j1 j2 (by omega))
  · have := oa_b (w := w) j1 j2
    exact ob_cg (ob_fr (k8 o' j1 j2) F (by omega)) (ob_u j1 (by omega))
theorem wh_pf3 (H : WH h w l p) : ∃ h', q_pf h w 6 3 (.int (zi v)) = some h' ∧ WH h' w (u1 l 3 v) p ∧ Fr w 38 h h' := by
  obtain ⟨k0, k1, k2, k3, k4, ⟨g, k5, k5'⟩, ⟨g', k6, k6'⟩, k7, k8⟩ := H
  have F : Fr w 1 h (q_up h w (.inr (6, [.int (zi (l 0)), .int (zi (l 1)), .int (zi (l 2)), .int (zi (l 3)), .int (zi (l 4)), .ref (w + 1), .ref (w + 2), .ref (w + 3), .ref (w + 16), .ref (w + 37)].set 3 (.int (zi v))))) := fr_up
  refine ⟨_, q_pf_of k1 (Nat.le_of_ble_eq_true rfl), ⟨k0, q_up_eq, ai_cg (ai_fr k2 F (by omega)) fun i j1 j2 => (u1_ne (by omega)).symm, ai_cg (ai_fr k3 F (by omega)) fun i j1 j2 => (u1_ne (by omega)).symm, ai_cg (ai_fr k4 F (by omega)) fun i j1 j2 => (u1_ne (by omega)).symm, ⟨g, (F.2 _ (by omega)).trans k5, k5'⟩, ⟨g', (F.2 _ (by omega)).trans k6, k6'⟩, fun r' j1 j2 => ?_, fun o' j1 j2 => ?_⟩, fr_in F (by omega) (by omega)⟩
  · have := wh_pb k0 j1 j2
    exact rb_cg (rb_fr (k7 r' j1 j2) F (by omega)) (rb_u j1 j2 (by omega))
  · have := oa_b (w := w) j1 j2
    exact ob_cg (ob_fr (k8 o' j1 j2) F (by omega)) (ob_u j1 (by omega))
theorem wh_pf4 (H : WH h w l p) : ∃ h', q_pf h w 6 4 (.int (zi v)) = some h' ∧ WH h' w (u1 l 4 v) p ∧ Fr w 38 h h' := by
  obtain ⟨k0, k1, k2, k3, k4, ⟨g, k5, k5'⟩, ⟨g', k6, k6'⟩, k7, k8⟩ := H
  have F : Fr w 1 h (q_up h w (.inr (6, [.int (zi (l 0)), .int (zi (l 1)), .int (zi (l 2)), .int (zi (l 3)), .int (zi (l 4)), .ref (w + 1), .ref (w + 2), .ref (w + 3), .ref (w + 16), .ref (w + 37)].set 4 (.int (zi v))))) := fr_up
  refine ⟨_, q_pf_of k1 (Nat.le_of_ble_eq_true rfl), ⟨k0, q_up_eq, ai_cg (ai_fr k2 F (by omega)) fun i j1 j2 => (u1_ne (by omega)).symm, ai_cg (ai_fr k3 F (by omega)) fun i j1 j2 => (u1_ne (by omega)).symm, ai_cg (ai_fr k4 F (by omega)) fun i j1 j2 => (u1_ne (by omega)).symm, ⟨g, (F.2 _ (by omega)).trans k5, k5'⟩, ⟨g', (F.2 _ (by omega)).trans k6, k6'⟩, fun r' j1 j2 => ?_, fun o' j1 j2 => ?_⟩, fr_in F (by omega) (by omega)⟩
  · have := wh_pb k0 j1 j2
    exact rb_cg (rb_fr (k7 r' j1 j2) F (by omega)) (rb_u j1 j2 (by omega))
  · have := oa_b (w := w) j1 j2
    exact ob_cg (ob_fr (k8 o' j1 j2) F (by omega)) (ob_u j1 (by omega))
theorem wh_ks (H : WH h w l p) (h1 : 0 ≤ z) (h2 : z < 48) : ∃ h', q_sI h 0 (w + 1) (zi z) (zi v) = some h' ∧ WH h' w (u1 l (8 + z) v) p ∧ Fr w 38 h h' := by
  obtain ⟨h', e, A, F⟩ := ai_s (v := v) (wh_k H) h1 h2 (by decide)
  obtain ⟨k0, k1, k2, k3, k4, ⟨g, k5, k5'⟩, ⟨g', k6, k6'⟩, k7, k8⟩ := H
  refine ⟨h', e, ⟨k0, ?_, ai_cg A fun i j1 j2 => ?_, ai_cg (ai_fr k3 F (by omega)) fun i j1 j2 => (u1_ne (by omega)).symm, ai_cg (ai_fr k4 F (by omega)) fun i j1 j2 => (u1_ne (by omega)).symm, ⟨g, (F.2 _ (by omega)).trans k5, k5'⟩, ⟨g', (F.2 _ (by omega)).trans k6, k6'⟩, fun r' j1 j2 => ?_, fun o' j1 j2 => ?_⟩, fr_in F (by omega) (by omega)⟩
  · rw [F.2 _ (by omega), k1, u1_ne (by omega), u1_ne (by omega), u1_ne (by omega), u1_ne (by omega), u1_ne (by omega)]
  · show (if i = z then v else l (8 + i)) = (if 8 + i = 8 + z then v else l (8 + i))
    by_cases q : i = z
    · rw [if_pos q, if_pos (by omega)]
    · rw [if_neg q, if_neg (by omega)]
  · have := wh_pb k0 j1 j2
    exact rb_cg (rb_fr (k7 r' j1 j2) F (by omega)) (rb_u j1 j2 (by omega))
  · have := oa_b (w := w) j1 j2
    exact ob_cg (ob_fr (k8 o' j1 j2) F (by omega)) (ob_u j1 (by omega))
theorem wh_cs (H : WH h w l p) (h1 : 0 ≤ z) (h2 : z < 48) : ∃ h', q_sI h 2 (w + 2) (zi z) (zi v) = some h' ∧ WH h' w (u1 l (56 + z) v) p ∧ Fr w 38 h h' := by
  obtain ⟨h', e, A, F⟩ := ai_s (v := v) (wh_c H) h1 h2 (by decide)
  obtain ⟨k0, k1, k2, k3, k4, ⟨g, k5, k5'⟩, ⟨g', k6, k6'⟩, k7, k8⟩ := H
  refine ⟨h', e, ⟨k0, ?_, ai_cg (ai_fr k2 F (by omega)) fun i j1 j2 => (u1_ne (by omega)).symm, ai_cg A fun i j1 j2 => ?_, ai_cg (ai_fr k4 F (by omega)) fun i j1 j2 => (u1_ne (by omega)).symm, ⟨g, (F.2 _ (by omega)).trans k5, k5'⟩, ⟨g', (F.2 _ (by omega)).trans k6, k6'⟩, fun r' j1 j2 => ?_, fun o' j1 j2 => ?_⟩, fr_in F (by omega) (by omega)⟩
  · rw [F.2 _ (by omega), k1, u1_ne (by omega), u1_ne (by omega), u1_ne (by omega), u1_ne (by omega), u1_ne (by omega)]
  · show (if i = z then v else l (56 + i)) = (if 56 + i = 56 + z then v else l (56 + i))
    by_cases q : i = z
    · rw [if_pos q, if_pos (by omega)]
    · rw [if_neg q, if_neg (by omega)]
  · have := wh_pb k0 j1 j2
    exact rb_cg (rb_fr (k7 r' j1 j2) F (by omega)) (rb_u j1 j2 (by omega))
  · have := oa_b (w := w) j1 j2
    exact ob_cg (ob_fr (k8 o' j1 j2) F (by omega)) (ob_u j1 (by omega))
theorem wh_ss (H : WH h w l p) (h1 : 0 ≤ z) (h2 : z < 3) : ∃ h', q_sI h 0 (w + 37) (zi z) (zi v) = some h' ∧ WH h' w (u1 l (5 + z) v) p ∧ Fr w 38 h h' := by
  obtain ⟨h', e, A, F⟩ := ai_s (v := v) (wh_s H) h1 h2 (by decide)
  obtain ⟨k0, k1, k2, k3, k4, ⟨g, k5, k5'⟩, ⟨g', k6, k6'⟩, k7, k8⟩ := H
  refine ⟨h', e, ⟨k0, ?_, ai_cg (ai_fr k2 F (by omega)) fun i j1 j2 => (u1_ne (by omega)).symm, ai_cg (ai_fr k3 F (by omega)) fun i j1 j2 => (u1_ne (by omega)).symm, ai_cg A fun i j1 j2 => ?_, ⟨g, (F.2 _ (by omega)).trans k5, k5'⟩, ⟨g', (F.2 _ (by omega)).trans k6, k6'⟩, fun r' j1 j2 => ?_, fun o' j1 j2 => ?_⟩, fr_in F (by omega) (by omega)⟩
  · rw [F.2 _ (by omega), k1, u1_ne (by omega), u1_ne (by omega), u1_ne (by omega), u1_ne (by omega), u1_ne (by omega)]
  · show (if i = z then v else l (5 + i)) = (if 5 + i = 5 + z then v else l (5 + i))
    by_cases q : i = z
    · rw [if_pos q, if_pos (by omega)]
    · rw [if_neg q, if_neg (by omega)]
  · have := wh_pb k0 j1 j2
    exact rb_cg (rb_fr (k7 r' j1 j2) F (by omega)) (rb_u j1 j2 (by omega))
  · have := oa_b (w := w) j1 j2
    exact ob_cg (ob_fr (k8 o' j1 j2) F (by omega)) (ob_u j1 (by omega))
theorem wh_rf0 (H : WH h w l p) (h1 : 0 ≤ r) (h2 : r < 6) : ∃ h', q_pf h (p r) 5 0 (.int (zi v)) = some h' ∧ WH h' w (u1 l (104 + 36 * r + 0) v) p ∧ Fr w 38 h h' := by
  obtain ⟨h', e, A, F⟩ := rb_pf0 (v := v) (wh_r H h1 h2)
  obtain ⟨a, b⟩ := wh_rw H h1 h2 A F
  exact ⟨h', e, rset_u (r := r) (k := 0) (by omega) (by omega) ▸ a, b⟩
theorem wh_rf1 (H : WH h w l p) (h1 : 0 ≤ r) (h2 : r < 6) : ∃ h', q_pf h (p r) 5 1 (.int (zi v)) = some h' ∧ WH h' w (u1 l (104 + 36 * r + 1) v) p ∧ Fr w 38 h h' := by
  obtain ⟨h', e, A, F⟩ := rb_pf1 (v := v) (wh_r H h1 h2)
  obtain ⟨a, b⟩ := wh_rw H h1 h2 A F
  exact ⟨h', e, rset_u (r := r) (k := 1) (by omega) (by omega) ▸ a, b⟩
theorem wh_rf2 (H : WH h w l p) (h1 : 0 ≤ r) (h2 : r < 6) : ∃ h', q_pf h (p r) 5 2 (.int (zi v)) = some h' ∧ WH h' w (u1 l (104 + 36 * r + 2) v) p ∧ Fr w 38 h h' := by
  obtain ⟨h', e, A, F⟩ := rb_pf2 (v := v) (wh_r H h1 h2)
  obtain ⟨a, b⟩ := wh_rw H h1 h2 A F
  exact ⟨h', e, rset_u (r := r) (k := 2) (by omega) (by omega) ▸ a, b⟩
theorem wh_rf3 (H : WH h w l p) (h1 : 0 ≤ r) (h2 : r < 6) : ∃ h', q_pf h (p r) 5 3 (.int (zi v)) = some h' ∧ WH h' w (u1 l (104 + 36 * r + 5) v) p ∧ Fr w 38 h h' := by
  obtain ⟨h', e, A, F⟩ := rb_pf3 (v := v) (wh_r H h1 h2)
  obtain ⟨a, b⟩ := wh_rw H h1 h2 A F
  exact ⟨h', e, rset_u (r := r) (k := 5) (by omega) (by omega) ▸ a, b⟩
theorem wh_rf4 (H : WH h w l p) (h1 : 0 ≤ r) (h2 : r < 6) : ∃ h', q_pf h (p r) 5 4 (.int (zi v)) = some h' ∧ WH h' w (u1 l (104 + 36 * r + 3) v) p ∧ Fr w 38 h h' := by
  obtain ⟨h', e, A, F⟩ := rb_pf4 (v := v) (wh_r H h1 h2)
  obtain ⟨a, b⟩ := wh_rw H h1 h2 A F
  exact ⟨h', e, rset_u (r := r) (k := 3) (by omega) (by omega) ▸ a, b⟩
theorem wh_rf5 (H : WH h w l p) (h1 : 0 ≤ r) (h2 : r < 6) : ∃ h', q_pf h (p r) 5 5 (.int (zi v)) = some h' ∧ WH h' w (u1 l (104 + 36 * r + 4) v) p ∧ Fr w 38 h h' := by
  obtain ⟨h', e, A, F⟩ := rb_pf5 (v := v) (wh_r H h1 h2)
  obtain ⟨a, b⟩ := wh_rw H h1 h2 A F
  exact ⟨h', e, rset_u (r := r) (k := 4) (by omega) (by omega) ▸ a, b⟩
theorem wh_of0 (H : WH h w l p) (h1 : 0 ≤ o) (h2 : o < 10) : ∃ h', q_pf h (oa w o) 3 0 (.int (zi v)) = some h' ∧ WH h' w (u1 l (320 + 8 * o + 0) v) p ∧ Fr w 38 h h' := by
  obtain ⟨h', e, A, F⟩ := ob_pf0 (v := v) (wh_ob H h1 h2)
  obtain ⟨a, b⟩ := wh_ow H h1 h2 A F
  exact ⟨h', e, oset_u (o := o) (k := 0) (by omega) (by omega) ▸ a, b⟩
theorem wh_of1 (H : WH h w l p) (h1 : 0 ≤ o) (h2 : o < 10) : ∃ h', q_pf h (oa w o) 3 1 (.int (zi v)) = some h' ∧ WH h' w (u1 l (320 + 8 * o + 1) v) p ∧ Fr w 38 h h' := by
  obtain ⟨h', e, A, F⟩ := ob_pf1 (v := v) (wh_ob H h1 h2)
  obtain ⟨a, b⟩ := wh_ow H h1 h2 A F
  exact ⟨h', e, oset_u (o := o) (k := 1) (by omega) (by omega) ▸ a, b⟩
theorem wh_of2 (H : WH h w l p) (h1 : 0 ≤ o) (h2 : o < 10) : ∃ h', q_pf h (oa w o) 3 2 (.int (zi v)) = some h' ∧ WH h' w (u1 l (320 + 8 * o + 2) v) p ∧ Fr w 38 h h' := by
  obtain ⟨h', e, A, F⟩ := ob_pf2 (v := v) (wh_ob H h1 h2)
  obtain ⟨a, b⟩ := wh_ow H h1 h2 A F
  exact ⟨h', e, oset_u (o := o) (k := 2) (by omega) (by omega) ▸ a, b⟩
theorem wh_of3 (H : WH h w l p) (h1 : 0 ≤ o) (h2 : o < 10) : ∃ h', q_pf h (oa w o) 3 3 (.int (zi v)) = some h' ∧ WH h' w (u1 l (320 + 8 * o + 4) v) p ∧ Fr w 38 h h' := by
  obtain ⟨h', e, A, F⟩ := ob_pf3 (v := v) (wh_ob H h1 h2)
  obtain ⟨a, b⟩ := wh_ow H h1 h2 A F
  exact ⟨h', e, oset_u (o := o) (k := 4) (by omega) (by omega) ▸ a, b⟩
end WHX
/-! small helps of the printed steps -/
theorem cz {x y : Int} (h : x = y) : some (Value.int (zi x)) = some (Value.int (zi y)) := by rw [h]
theorem lq {Q : q_R → q_H → Prop} {x y : Int} {h : q_H} (hQ : Q (.inl (some (.int (zi y)))) h) (e : x = y) : Q (.inl (some (.int (zi x)))) h := e ▸ hQ
theorem obj_pf {h : q_H} {a ci k : Nat} {v : Value} {fs : List Value} (H : h.1 a = some (.inr (ci, fs))) (hk : k < fs.length) : ∃ h', q_pf h a ci k v = some h' ∧ h'.1 a = some (.inr (ci, fs.set k v)) ∧ Fr a 1 h h' := ⟨_, q_pf_of H hk, q_up_eq, fr_up⟩
theorem vb_n {v : Int} (h1 : 0 ≤ v) (h2 : v ≤ 1) : vp_nar .boolean (zi v) = zi v := by
  rcases (by omega : v = 0 ∨ v = 1) with e | e
  · rw [e]; rfl
  · rw [e]; rfl
section FND
variable {P : Int → Prop} {n k a : Int} {g : Int → Int → Int}
theorem fnd_b (h : k < n) (hp : ¬ P k) : fnd P (n - k).toNat k = fnd P (n - (k + 1)).toNat (k + 1) := by
  rw [show (n - k).toNat = (n - (k + 1)).toNat + 1 by omega, fnd_f hp]
theorem fnd_h (h : k < n) (hp : P k) : fnd P (n - k).toNat k = k := by
  rw [show (n - k).toNat = (n - (k + 1)).toNat + 1 by omega, fnd_t hp]
theorem fnd_e (h : n ≤ k) : fnd P (n - k).toNat k = -1 := by
  rw [show (n - k).toNat = 0 by omega]; rfl
end FND
