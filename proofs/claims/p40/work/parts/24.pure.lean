/-! the warehouse as one row of integers; the reference's object as an image (printed by program) -/
abbrev q_Im : Type := Nat → Int → Int
def u1 (f : Int → Int) (k v : Int) : Int → Int := fun i => if i = k then v else f i
def uA (M : q_Im) (j : Nat) (f : Int → Int) : q_Im := fun j' => if j' = j then f else M j'
abbrev uM (M : q_Im) (j : Nat) (k v : Int) : q_Im := uA M j (u1 (M j) k v)
theorem u1_eq {f : Int → Int} {k v : Int} : u1 f k v k = v := if_pos rfl
theorem u1_ne {f : Int → Int} {k v i : Int} (h : i ≠ k) : u1 f k v i = f i := if_neg h
theorem u1_u1 {f : Int → Int} {k v w : Int} : u1 (u1 f k v) k w = u1 f k w := by
  funext i
  by_cases h : i = k
  · subst h; rw [u1_eq, u1_eq]
  · rw [u1_ne h, u1_ne h, u1_ne h]
theorem uA_eq {M : q_Im} {j : Nat} {f : Int → Int} : uA M j f j = f := if_pos rfl
theorem uA_ne {M : q_Im} {j i : Nat} {f : Int → Int} (h : i ≠ j) : uA M j f i = M i := if_neg h
theorem uA_uA {M : q_Im} {j : Nat} {f g : Int → Int} : uA (uA M j f) j g = uA M j g := by
  funext i
  by_cases h : i = j
  · subst h; rw [uA_eq, uA_eq]
  · rw [uA_ne h, uA_ne h, uA_ne h]
theorem uA_self {M : q_Im} {j : Nat} : uA M j (M j) = M := by
  funext i
  by_cases h : i = j
  · subst h; rw [uA_eq]
  · rw [uA_ne h]
theorem uA_comm {M : q_Im} {i j : Nat} {f g : Int → Int} (h : i ≠ j) : uA (uA M i f) j g = uA (uA M j g) i f := by
  funext k
  by_cases h1 : k = i
  · subst h1; rw [uA_ne h, uA_eq, uA_eq]
  · by_cases h2 : k = j
    · subst h2; rw [uA_eq, uA_ne h1, uA_eq]
    · rw [uA_ne h2, uA_ne h1, uA_ne h1, uA_ne h2]
theorem u1_toNat {f : Int → Int} {z v : Int} (h1 : 0 ≤ z) : upd (fun k : Nat => zi (f k)) z.toNat (zi v) = fun k : Nat => zi (u1 f z v k) := by
  funext k
  show (if k = z.toNat then zi v else zi (f k)) = zi (if (k : Int) = z then v else f k)
  by_cases h : k = z.toNat
  · rw [if_pos h, if_pos (by omega)]
  · rw [if_neg h, if_neg (by omega)]
/-- the copy of a part -/
def cpI (f g : Int → Int) (sp dp n : Int) : Int → Int := fun i => if dp ≤ i ∧ i < dp + n then f (sp + (i - dp)) else g i
theorem cpI_va {f g : Int → Int} {sp dp n : Int} (h1 : 0 ≤ sp) (h2 : 0 ≤ dp) (h3 : 0 ≤ n) : va_cpy (fun k : Nat => zi (f k)) (fun k : Nat => zi (g k)) sp.toNat dp.toNat n.toNat = fun k : Nat => zi (cpI f g sp dp n k) := by
  funext k
  show (if dp.toNat ≤ k ∧ k < dp.toNat + n.toNat then zi (f ((sp.toNat + (k - dp.toNat) : Nat) : Int)) else zi (g k)) = zi (if dp ≤ (k : Int) ∧ (k : Int) < dp + n then f (sp + (k - dp)) else g k)
  by_cases h : dp.toNat ≤ k ∧ k < dp.toNat + n.toNat
  · rw [if_pos h, if_pos (by omega), show ((sp.toNat + (k - dp.toNat) : Nat) : Int) = sp + (k - dp) by omega]
  · rw [if_neg h, if_neg (by omega)]
theorem bI_n0 {P : Prop} : ¬ bI P = 0 ↔ P := by
  rw [bI_0]
  exact ⟨fun h => Classical.byContradiction h, fun h k => k h⟩
theorem nb_bI {P : Prop} : narrow .boolean (.int (zi (bI P))) = .int (zi (bI P)) := by
  by_cases h : P
  · rw [bI_t h]; rfl
  · rw [bI_f h]; rfl
theorem lf {x y : Int} {h : q_H} (e : x = y) : (some (.inl (some (.int (zi x))), h) : Option (q_R × q_H)) = some (.inl (some (.int (zi y))), h) := by rw [e]
theorem lfM {x y : Int} {h h' : q_H} (e : x = y) (k : h = h') : (some (.inl (some (.int (zi x))), h) : Option (q_R × q_H)) = some (.inl (some (.int (zi y))), h') := by rw [e, k]
/-- the least of n places from k on of which P says yes; -1: none -/
noncomputable def fnd (P : Int → Prop) : Nat → Int → Int
  | 0, _ => -1
  | n + 1, k => @ite _ (P k) (Classical.propDecidable _) k (fnd P n (k + 1))
theorem fnd_0 {P : Int → Prop} {k : Int} : fnd P 0 k = -1 := rfl
theorem fnd_t {P : Int → Prop} {n : Nat} {k : Int} (h : P k) : fnd P (n + 1) k = k := if_pos h
theorem fnd_f {P : Int → Prop} {n : Nat} {k : Int} (h : ¬ P k) : fnd P (n + 1) k = fnd P n (k + 1) := if_neg h
/-- a sum over n places from k on -/
def smI (f : Int → Int) : Nat → Int → Int
  | 0, _ => 0
  | n + 1, k => f k + smI f n (k + 1)
def cs (s : Int → Int) : Int := s 0 * s 1
abbrev isC (s : Int → Int) (c : Int) : Prop := 0 ≤ c ∧ c < cs s
abbrev isR (s : Int → Int) (r : Int) : Prop := 0 ≤ r ∧ r < s 3
abbrev isO (s : Int → Int) (o : Int) : Prop := 0 ≤ o ∧ o < s 4
abbrev ent (s : Int → Int) (c : Int) : Prop := ¬ s (8 + c) = 1 ∧ s (56 + c) = 0
abbrev inn (v lo hi : Int) : Prop := lo ≤ v ∧ v ≤ hi
def rb (s : Int → Int) (r k : Int) : Int := s (104 + 36 * r + k)
def ob (s : Int → Int) (o k : Int) : Int := s (320 + 8 * o + k)
/-- a cell's neighbor, -1 if there is none; 4: the cell itself -/
def bes (s : Int → Int) (c w : Int) : Int := if w = 0 then (if s 1 ≤ c then c - s 1 else -1) else if w = 1 then (if c % s 1 + 1 < s 1 then c + 1 else -1) else if w = 2 then (if c + s 1 < cs s then c + s 1 else -1) else if w = 3 then (if 0 < c % s 1 then c - 1 else -1) else c
def ahf (f : Int → Int) (t : Int) : Int := if t = 0 ∨ f 3 = 0 then f 0 else f (6 + (if t > f 3 then f 3 else t) - 1)
def ahd (s : Int → Int) (r t : Int) : Int := ahf (rb s r) t

/-- what holds of a robot's numbers (n cells, o orders), of an order's -/
abbrev Rf (n o : Int) (f : Int → Int) : Prop := (0 ≤ f 0 ∧ f 0 < n) ∧ (-300000 ≤ f 1 ∧ f 1 ≤ 99) ∧ (-1 ≤ f 2 ∧ f 2 < o) ∧ (0 ≤ f 3 ∧ f 3 ≤ 30) ∧ (0 ≤ f 4 ∧ f 4 ≤ 3) ∧ (0 ≤ f 5 ∧ f 5 ≤ 100000) ∧ (∀ t, 0 ≤ t → t < f 3 → 0 ≤ f (6 + t) ∧ f (6 + t) < n)
abbrev Of (n : Int) (f : Int → Int) : Prop := (0 ≤ f 0 ∧ f 0 ≤ 999) ∧ (1 ≤ f 1 ∧ f 1 ≤ 3) ∧ (0 ≤ f 2 ∧ f 2 ≤ f 1) ∧ (-1 ≤ f 4 ∧ f 4 ≤ 100000) ∧ (∀ k, 0 ≤ k → k < 3 → -1 ≤ f (5 + k) ∧ f (5 + k) < n) ∧ (∀ k, 0 ≤ k → k < f 1 → 0 ≤ f (5 + k))
/-- what holds of every warehouse that comes up; RgC: of the class's -/
def RgC (s : Int → Int) : Prop := (1 ≤ s 0 ∧ s 0 ≤ 6) ∧ (2 ≤ s 1 ∧ s 1 ≤ 8) ∧ (0 ≤ s 2 ∧ s 2 ≤ 1000000) ∧ (0 ≤ s 3 ∧ s 3 ≤ 6) ∧ (0 ≤ s 4 ∧ s 4 ≤ 10) ∧ (2 ≤ cs s ∧ cs s ≤ 48) ∧ (1 ≤ s 5 ∧ s 5 ≤ 20) ∧ (1 ≤ s 6 ∧ s 6 ≤ 3) ∧ (1 ≤ s 7 ∧ s 7 ≤ 30) ∧
  (∀ k, 0 ≤ k → k < cs s → 0 ≤ s (8 + k) ∧ s (8 + k) ≤ 3) ∧ (∀ k, 0 ≤ k → k < 48 → 0 ≤ s (56 + k) ∧ s (56 + k) ≤ 1) ∧
  (∀ r, 0 ≤ r → r < s 3 → Rf (cs s) (s 4) (rb s r)) ∧ (∀ o, 0 ≤ o → o < s 4 → Of (cs s) (ob s o))
def Rg (s : Int → Int) : Prop := (∀ k, -1000000 ≤ s k ∧ s k ≤ 1000000) ∧ (1 ≤ s 0 ∧ s 0 ≤ 6) ∧ (2 ≤ s 1 ∧ s 1 ≤ 8) ∧ (0 ≤ s 3 ∧ s 3 ≤ 6) ∧ (0 ≤ s 4 ∧ s 4 ≤ 10) ∧ (2 ≤ cs s ∧ cs s ≤ 48) ∧ (1 ≤ s 5 ∧ s 5 ≤ 20) ∧ (1 ≤ s 6 ∧ s 6 ≤ 3) ∧ (1 ≤ s 7 ∧ s 7 ≤ 30) ∧
  (∀ k, 0 ≤ k → k < cs s → 0 ≤ s (8 + k) ∧ s (8 + k) ≤ 3) ∧ (∀ k, 0 ≤ k → k < 48 → 0 ≤ s (56 + k) ∧ s (56 + k) ≤ 1) ∧
  (∀ r, 0 ≤ r → r < s 3 → Rf (cs s) (s 4) (rb s r)) ∧ (∀ o, 0 ≤ o → o < s 4 → Of (cs s) (ob s o) ∧ (-1 ≤ ob s o 3 ∧ ob s o 3 < s 3))
/-- the contents of the reference's object and its rows -/
def mA (am : Nat) (M : q_Im) : Nat → va_E
  | 0 => .inr (8, [.ref (am + 1), .ref (am + 2), .int (zi (M 0 2)), .ref (am + 3), .int (zi (M 0 4)), .int (zi (M 0 5)), .int (zi (M 0 6)), .int (zi (M 0 7)), .ref (am + 4), .ref (am + 5), .ref (am + 6), .ref (am + 7), .ref (am + 8), .ref (am + 9), .ref (am + 10), .ref (am + 11), .int (zi (M 0 16)), .int (zi (M 0 17)), .int (zi (M 0 18)), .int (zi (M 0 19))])
  | 1 => .inl (0, 400, .inl fun k => zi (M 1 k))
  | 2 => .inl (0, 400, .inl fun k => zi (M 2 k))
  | 3 => .inl (0, 3200, .inl fun k => zi (M 3 k))
  | 4 => .inl (0, 3, .inl fun k => zi (M 4 k))
  | 5 => .inl (2, 1488, .inl fun k => zi (M 5 k))
  | 6 => .inl (2, 1488, .inl fun k => zi (M 6 k))
  | 7 => .inl (0, 30, .inl fun k => zi (M 7 k))
  | 8 => .inl (0, 48, .inl fun k => zi (M 8 k))
  | 9 => .inl (0, 48, .inl fun k => zi (M 9 k))
  | 10 => .inl (0, 2304, .inl fun k => zi (M 10 k))
  | 11 => .inl (3, 60, .inl fun k => zi (M 11 k))
  | _ => .inl (0, 0, .inl fun _ => 0)
def q_mw (h : q_H) (am : Nat) (M : q_Im) : q_H := (fun a => if am ≤ a ∧ a < am + 12 then some (mA am M (a - am)) else h.1 a, h.2)
section MW
variable {E : q_E} {h : q_H} {am : Nat} {M : q_Im} {z v : Int}
theorem m_at (j : Nat) (hj : j < 12) : (q_mw h am M).1 (am + j) = some (mA am M j) := by
  show (if am ≤ am + j ∧ am + j < am + 12 then some (mA am M (am + j - am)) else h.1 (am + j)) = _
  rw [if_pos ⟨by omega, by omega⟩, Nat.add_sub_cancel_left]
theorem m_out {a : Nat} (ha : a < am ∨ am + 12 ≤ a) : (q_mw h am M).1 a = h.1 a := if_neg (by omega)
theorem m_o : (q_mw h am M).1 am = some (mA am M 0) := m_at 0 (by omega)
theorem m_up (j : Nat) (hj : j < 12) {e : va_E} {M' : q_Im} (he : e = mA am M' j) (hs : ∀ i, i ≠ j → mA am M' i = mA am M i) : q_up (q_mw h am M) (am + j) e = q_mw h am M' := by
  refine Prod.ext ?_ rfl
  funext a
  show (if a = am + j then some e else (if am ≤ a ∧ a < am + 12 then some (mA am M (a - am)) else h.1 a)) = (if am ≤ a ∧ a < am + 12 then some (mA am M' (a - am)) else h.1 a)
  by_cases h1 : a = am + j
  · subst h1
    rw [if_pos rfl, if_pos ⟨by omega, by omega⟩, Nat.add_sub_cancel_left, he]
  · rw [if_neg h1]
    by_cases h2 : am ≤ a ∧ a < am + 12
    · rw [if_pos h2, if_pos h2, hs _ (by omega)]
    · rw [if_neg h2, if_neg h2]
theorem m_uA0 {f : Int → Int} : ∀ i, i ≠ 0 → mA am (uA M 0 f) i = mA am M i
  | 0, hi => absurd rfl hi
  | 1, hi => rfl
  | 2, hi => rfl
  | 3, hi => rfl
  | 4, hi => rfl
  | 5, hi => rfl
  | 6, hi => rfl
  | 7, hi => rfl
  | 8, hi => rfl
  | 9, hi => rfl
  | 10, hi => rfl
  | 11, hi => rfl
  | _ + 12, _ => rfl
theorem m_uA1 {f : Int → Int} : ∀ i, i ≠ 1 → mA am (uA M 1 f) i = mA am M i
  | 0, hi => rfl
  | 1, hi => absurd rfl hi
  | 2, hi => rfl
  | 3, hi => rfl
  | 4, hi => rfl
  | 5, hi => rfl
  | 6, hi => rfl
  | 7, hi => rfl
  | 8, hi => rfl
  | 9, hi => rfl
  | 10, hi => rfl
  | 11, hi => rfl
  | _ + 12, _ => rfl
theorem m_uA2 {f : Int → Int} : ∀ i, i ≠ 2 → mA am (uA M 2 f) i = mA am M i
  | 0, hi => rfl
  | 1, hi => rfl
  | 2, hi => absurd rfl hi
  | 3, hi => rfl
  | 4, hi => rfl
  | 5, hi => rfl
  | 6, hi => rfl
  | 7, hi => rfl
  | 8, hi => rfl
  | 9, hi => rfl
  | 10, hi => rfl
  | 11, hi => rfl
  | _ + 12, _ => rfl
theorem m_uA3 {f : Int → Int} : ∀ i, i ≠ 3 → mA am (uA M 3 f) i = mA am M i
  | 0, hi => rfl
  | 1, hi => rfl
  | 2, hi => rfl
  | 3, hi => absurd rfl hi
  | 4, hi => rfl
  | 5, hi => rfl
  | 6, hi => rfl
  | 7, hi => rfl
  | 8, hi => rfl
  | 9, hi => rfl
  | 10, hi => rfl
  | 11, hi => rfl
  | _ + 12, _ => rfl
theorem m_uA4 {f : Int → Int} : ∀ i, i ≠ 4 → mA am (uA M 4 f) i = mA am M i
  | 0, hi => rfl
  | 1, hi => rfl
  | 2, hi => rfl
  | 3, hi => rfl
  | 4, hi => absurd rfl hi
  | 5, hi => rfl
  | 6, hi => rfl
  | 7, hi => rfl
  | 8, hi => rfl
  | 9, hi => rfl
  | 10, hi => rfl
  | 11, hi => rfl
  | _ + 12, _ => rfl
theorem m_uA5 {f : Int → Int} : ∀ i, i ≠ 5 → mA am (uA M 5 f) i = mA am M i
  | 0, hi => rfl
  | 1, hi => rfl
  | 2, hi => rfl
  | 3, hi => rfl
  | 4, hi => rfl
  | 5, hi => absurd rfl hi
  | 6, hi => rfl
  | 7, hi => rfl
  | 8, hi => rfl
  | 9, hi => rfl
  | 10, hi => rfl
  | 11, hi => rfl
  | _ + 12, _ => rfl
theorem m_uA6 {f : Int → Int} : ∀ i, i ≠ 6 → mA am (uA M 6 f) i = mA am M i
  | 0, hi => rfl
  | 1, hi => rfl
  | 2, hi => rfl
  | 3, hi => rfl
  | 4, hi => rfl
  | 5, hi => rfl
  | 6, hi => absurd rfl hi
  | 7, hi => rfl
  | 8, hi => rfl
  | 9, hi => rfl
  | 10, hi => rfl
  | 11, hi => rfl
  | _ + 12, _ => rfl
theorem m_uA7 {f : Int → Int} : ∀ i, i ≠ 7 → mA am (uA M 7 f) i = mA am M i
  | 0, hi => rfl
  | 1, hi => rfl
  | 2, hi => rfl
  | 3, hi => rfl
  | 4, hi => rfl
  | 5, hi => rfl
  | 6, hi => rfl
  | 7, hi => absurd rfl hi
  | 8, hi => rfl
  | 9, hi => rfl
  | 10, hi => rfl
  | 11, hi => rfl
  | _ + 12, _ => rfl
theorem m_uA8 {f : Int → Int} : ∀ i, i ≠ 8 → mA am (uA M 8 f) i = mA am M i
  | 0, hi => rfl
  | 1, hi => rfl
  | 2, hi => rfl
  | 3, hi => rfl
  | 4, hi => rfl
  | 5, hi => rfl
  | 6, hi => rfl
  | 7, hi => rfl
  | 8, hi => absurd rfl hi
  | 9, hi => rfl
  | 10, hi => rfl
  | 11, hi => rfl
  | _ + 12, _ => rfl
theorem m_uA9 {f : Int → Int} : ∀ i, i ≠ 9 → mA am (uA M 9 f) i = mA am M i
  | 0, hi => rfl
  | 1, hi => rfl
  | 2, hi => rfl
  | 3, hi => rfl
  | 4, hi => rfl
  | 5, hi => rfl
  | 6, hi => rfl
  | 7, hi => rfl
  | 8, hi => rfl
  | 9, hi => absurd rfl hi
  | 10, hi => rfl
  | 11, hi => rfl
  | _ + 12, _ => rfl
theorem m_uA10 {f : Int → Int} : ∀ i, i ≠ 10 → mA am (uA M 10 f) i = mA am M i
  | 0, hi => rfl
  | 1, hi => rfl
  | 2, hi => rfl
  | 3, hi => rfl
  | 4, hi => rfl
  | 5, hi => rfl
  | 6, hi => rfl
  | 7, hi => rfl
  | 8, hi => rfl
  | 9, hi => rfl
  | 10, hi => absurd rfl hi
  | 11, hi => rfl
  | _ + 12, _ => rfl
theorem m_uA11 {f : Int → Int} : ∀ i, i ≠ 11 → mA am (uA M 11 f) i = mA am M i
  | 0, hi => rfl
  | 1, hi => rfl
  | 2, hi => rfl
  | 3, hi => rfl
  | 4, hi => rfl
  | 5, hi => rfl
  | 6, hi => rfl
  | 7, hi => rfl
  | 8, hi => rfl
  | 9, hi => rfl
  | 10, hi => rfl
  | 11, hi => absurd rfl hi
  | _ + 12, _ => rfl
theorem m_pf2 : q_pf (q_mw h am M) am 8 2 (.int (zi v)) = some (q_mw h am (uM M 0 2 v)) := (q_pf_of m_o (Nat.le_of_ble_eq_true rfl)).trans (congrArg some (m_up 0 (by omega) rfl m_uA0))
theorem m_pf4 : q_pf (q_mw h am M) am 8 4 (.int (zi v)) = some (q_mw h am (uM M 0 4 v)) := (q_pf_of m_o (Nat.le_of_ble_eq_true rfl)).trans (congrArg some (m_up 0 (by omega) rfl m_uA0))
theorem m_pf5 : q_pf (q_mw h am M) am 8 5 (.int (zi v)) = some (q_mw h am (uM M 0 5 v)) := (q_pf_of m_o (Nat.le_of_ble_eq_true rfl)).trans (congrArg some (m_up 0 (by omega) rfl m_uA0))
theorem m_pf6 : q_pf (q_mw h am M) am 8 6 (.int (zi v)) = some (q_mw h am (uM M 0 6 v)) := (q_pf_of m_o (Nat.le_of_ble_eq_true rfl)).trans (congrArg some (m_up 0 (by omega) rfl m_uA0))
theorem m_pf7 : q_pf (q_mw h am M) am 8 7 (.int (zi v)) = some (q_mw h am (uM M 0 7 v)) := (q_pf_of m_o (Nat.le_of_ble_eq_true rfl)).trans (congrArg some (m_up 0 (by omega) rfl m_uA0))
theorem m_pf16 : q_pf (q_mw h am M) am 8 16 (.int (zi v)) = some (q_mw h am (uM M 0 16 v)) := (q_pf_of m_o (Nat.le_of_ble_eq_true rfl)).trans (congrArg some (m_up 0 (by omega) rfl m_uA0))
theorem m_pf17 : q_pf (q_mw h am M) am 8 17 (.int (zi v)) = some (q_mw h am (uM M 0 17 v)) := (q_pf_of m_o (Nat.le_of_ble_eq_true rfl)).trans (congrArg some (m_up 0 (by omega) rfl m_uA0))
theorem m_pf18 : q_pf (q_mw h am M) am 8 18 (.int (zi v)) = some (q_mw h am (uM M 0 18 v)) := (q_pf_of m_o (Nat.le_of_ble_eq_true rfl)).trans (congrArg some (m_up 0 (by omega) rfl m_uA0))
theorem m_pf19 : q_pf (q_mw h am M) am 8 19 (.int (zi v)) = some (q_mw h am (uM M 0 19 v)) := (q_pf_of m_o (Nat.le_of_ble_eq_true rfl)).trans (congrArg some (m_up 0 (by omega) rfl m_uA0))
theorem m_a1 : (q_mw h am M).1 (am + 1) = some (.inl (0, 400, .inl fun k => zi (M 1 k))) := m_at 1 (by omega)
theorem m_g1 (h1 : 0 ≤ z) (h2 : z < 400) : q_gI E (q_mw h am M) 0 .int (am + 1) (zi z) = some (.int (zi (M 1 z))) := (q_gI_of m_a1 h1 h2 (by decide)).trans (by simp only [Int.toNat_of_nonneg h1])
theorem m_s1 (h1 : 0 ≤ z) (h2 : z < 400) : q_sI (q_mw h am M) 0 (am + 1) (zi z) (zi v) = some (q_mw h am (uM M 1 z v)) := (q_sI_of m_a1 h1 h2 (by decide)).trans (congrArg some (m_up 1 (by omega) (by rw [u1_toNat h1]; rfl) m_uA1))
theorem m_w1 {f : Int → Int} : q_up (q_mw h am M) (am + 1) (.inl (0, 400, .inl fun k => zi (f k))) = q_mw h am (uA M 1 f) := m_up 1 (by omega) rfl m_uA1
theorem m_a2 : (q_mw h am M).1 (am + 2) = some (.inl (0, 400, .inl fun k => zi (M 2 k))) := m_at 2 (by omega)
theorem m_g2 (h1 : 0 ≤ z) (h2 : z < 400) : q_gI E (q_mw h am M) 0 .int (am + 2) (zi z) = some (.int (zi (M 2 z))) := (q_gI_of m_a2 h1 h2 (by decide)).trans (by simp only [Int.toNat_of_nonneg h1])
theorem m_s2 (h1 : 0 ≤ z) (h2 : z < 400) : q_sI (q_mw h am M) 0 (am + 2) (zi z) (zi v) = some (q_mw h am (uM M 2 z v)) := (q_sI_of m_a2 h1 h2 (by decide)).trans (congrArg some (m_up 2 (by omega) (by rw [u1_toNat h1]; rfl) m_uA2))
theorem m_w2 {f : Int → Int} : q_up (q_mw h am M) (am + 2) (.inl (0, 400, .inl fun k => zi (f k))) = q_mw h am (uA M 2 f) := m_up 2 (by omega) rfl m_uA2
theorem m_a3 : (q_mw h am M).1 (am + 3) = some (.inl (0, 3200, .inl fun k => zi (M 3 k))) := m_at 3 (by omega)
theorem m_g3 (h1 : 0 ≤ z) (h2 : z < 3200) : q_gI E (q_mw h am M) 0 .int (am + 3) (zi z) = some (.int (zi (M 3 z))) := (q_gI_of m_a3 h1 h2 (by decide)).trans (by simp only [Int.toNat_of_nonneg h1])
theorem m_s3 (h1 : 0 ≤ z) (h2 : z < 3200) : q_sI (q_mw h am M) 0 (am + 3) (zi z) (zi v) = some (q_mw h am (uM M 3 z v)) := (q_sI_of m_a3 h1 h2 (by decide)).trans (congrArg some (m_up 3 (by omega) (by rw [u1_toNat h1]; rfl) m_uA3))
theorem m_w3 {f : Int → Int} : q_up (q_mw h am M) (am + 3) (.inl (0, 3200, .inl fun k => zi (f k))) = q_mw h am (uA M 3 f) := m_up 3 (by omega) rfl m_uA3
theorem m_a4 : (q_mw h am M).1 (am + 4) = some (.inl (0, 3, .inl fun k => zi (M 4 k))) := m_at 4 (by omega)
theorem m_g4 (h1 : 0 ≤ z) (h2 : z < 3) : q_gI E (q_mw h am M) 0 .int (am + 4) (zi z) = some (.int (zi (M 4 z))) := (q_gI_of m_a4 h1 h2 (by decide)).trans (by simp only [Int.toNat_of_nonneg h1])
theorem m_s4 (h1 : 0 ≤ z) (h2 : z < 3) : q_sI (q_mw h am M) 0 (am + 4) (zi z) (zi v) = some (q_mw h am (uM M 4 z v)) := (q_sI_of m_a4 h1 h2 (by decide)).trans (congrArg some (m_up 4 (by omega) (by rw [u1_toNat h1]; rfl) m_uA4))
theorem m_w4 {f : Int → Int} : q_up (q_mw h am M) (am + 4) (.inl (0, 3, .inl fun k => zi (f k))) = q_mw h am (uA M 4 f) := m_up 4 (by omega) rfl m_uA4
theorem m_a5 : (q_mw h am M).1 (am + 5) = some (.inl (2, 1488, .inl fun k => zi (M 5 k))) := m_at 5 (by omega)
theorem m_g5 (h1 : 0 ≤ z) (h2 : z < 1488) : q_gB E (q_mw h am M) (am + 5) (zi z) = some (.int (zi (M 5 z))) := (q_gB_of m_a5 h1 h2 (by decide)).trans (by simp only [Int.toNat_of_nonneg h1])
theorem m_s5 (h1 : 0 ≤ z) (h2 : z < 1488) : q_sI (q_mw h am M) 2 (am + 5) (zi z) (zi v) = some (q_mw h am (uM M 5 z v)) := (q_sI_of m_a5 h1 h2 (by decide)).trans (congrArg some (m_up 5 (by omega) (by rw [u1_toNat h1]; rfl) m_uA5))
theorem m_w5 {f : Int → Int} : q_up (q_mw h am M) (am + 5) (.inl (2, 1488, .inl fun k => zi (f k))) = q_mw h am (uA M 5 f) := m_up 5 (by omega) rfl m_uA5
theorem m_a6 : (q_mw h am M).1 (am + 6) = some (.inl (2, 1488, .inl fun k => zi (M 6 k))) := m_at 6 (by omega)
theorem m_g6 (h1 : 0 ≤ z) (h2 : z < 1488) : q_gB E (q_mw h am M) (am + 6) (zi z) = some (.int (zi (M 6 z))) := (q_gB_of m_a6 h1 h2 (by decide)).trans (by simp only [Int.toNat_of_nonneg h1])
theorem m_s6 (h1 : 0 ≤ z) (h2 : z < 1488) : q_sI (q_mw h am M) 2 (am + 6) (zi z) (zi v) = some (q_mw h am (uM M 6 z v)) := (q_sI_of m_a6 h1 h2 (by decide)).trans (congrArg some (m_up 6 (by omega) (by rw [u1_toNat h1]; rfl) m_uA6))
theorem m_w6 {f : Int → Int} : q_up (q_mw h am M) (am + 6) (.inl (2, 1488, .inl fun k => zi (f k))) = q_mw h am (uA M 6 f) := m_up 6 (by omega) rfl m_uA6
theorem m_a7 : (q_mw h am M).1 (am + 7) = some (.inl (0, 30, .inl fun k => zi (M 7 k))) := m_at 7 (by omega)
theorem m_g7 (h1 : 0 ≤ z) (h2 : z < 30) : q_gI E (q_mw h am M) 0 .int (am + 7) (zi z) = some (.int (zi (M 7 z))) := (q_gI_of m_a7 h1 h2 (by decide)).trans (by simp only [Int.toNat_of_nonneg h1])
theorem m_s7 (h1 : 0 ≤ z) (h2 : z < 30) : q_sI (q_mw h am M) 0 (am + 7) (zi z) (zi v) = some (q_mw h am (uM M 7 z v)) := (q_sI_of m_a7 h1 h2 (by decide)).trans (congrArg some (m_up 7 (by omega) (by rw [u1_toNat h1]; rfl) m_uA7))
theorem m_w7 {f : Int → Int} : q_up (q_mw h am M) (am + 7) (.inl (0, 30, .inl fun k => zi (f k))) = q_mw h am (uA M 7 f) := m_up 7 (by omega) rfl m_uA7
theorem m_a8 : (q_mw h am M).1 (am + 8) = some (.inl (0, 48, .inl fun k => zi (M 8 k))) := m_at 8 (by omega)
theorem m_g8 (h1 : 0 ≤ z) (h2 : z < 48) : q_gI E (q_mw h am M) 0 .int (am + 8) (zi z) = some (.int (zi (M 8 z))) := (q_gI_of m_a8 h1 h2 (by decide)).trans (by simp only [Int.toNat_of_nonneg h1])
theorem m_s8 (h1 : 0 ≤ z) (h2 : z < 48) : q_sI (q_mw h am M) 0 (am + 8) (zi z) (zi v) = some (q_mw h am (uM M 8 z v)) := (q_sI_of m_a8 h1 h2 (by decide)).trans (congrArg some (m_up 8 (by omega) (by rw [u1_toNat h1]; rfl) m_uA8))
theorem m_w8 {f : Int → Int} : q_up (q_mw h am M) (am + 8) (.inl (0, 48, .inl fun k => zi (f k))) = q_mw h am (uA M 8 f) := m_up 8 (by omega) rfl m_uA8
theorem m_a9 : (q_mw h am M).1 (am + 9) = some (.inl (0, 48, .inl fun k => zi (M 9 k))) := m_at 9 (by omega)
theorem m_g9 (h1 : 0 ≤ z) (h2 : z < 48) : q_gI E (q_mw h am M) 0 .int (am + 9) (zi z) = some (.int (zi (M 9 z))) := (q_gI_of m_a9 h1 h2 (by decide)).trans (by simp only [Int.toNat_of_nonneg h1])
theorem m_s9 (h1 : 0 ≤ z) (h2 : z < 48) : q_sI (q_mw h am M) 0 (am + 9) (zi z) (zi v) = some (q_mw h am (uM M 9 z v)) := (q_sI_of m_a9 h1 h2 (by decide)).trans (congrArg some (m_up 9 (by omega) (by rw [u1_toNat h1]; rfl) m_uA9))
theorem m_w9 {f : Int → Int} : q_up (q_mw h am M) (am + 9) (.inl (0, 48, .inl fun k => zi (f k))) = q_mw h am (uA M 9 f) := m_up 9 (by omega) rfl m_uA9
theorem m_a10 : (q_mw h am M).1 (am + 10) = some (.inl (0, 2304, .inl fun k => zi (M 10 k))) := m_at 10 (by omega)
theorem m_g10 (h1 : 0 ≤ z) (h2 : z < 2304) : q_gI E (q_mw h am M) 0 .int (am + 10) (zi z) = some (.int (zi (M 10 z))) := (q_gI_of m_a10 h1 h2 (by decide)).trans (by simp only [Int.toNat_of_nonneg h1])
theorem m_s10 (h1 : 0 ≤ z) (h2 : z < 2304) : q_sI (q_mw h am M) 0 (am + 10) (zi z) (zi v) = some (q_mw h am (uM M 10 z v)) := (q_sI_of m_a10 h1 h2 (by decide)).trans (congrArg some (m_up 10 (by omega) (by rw [u1_toNat h1]; rfl) m_uA10))
theorem m_w10 {f : Int → Int} : q_up (q_mw h am M) (am + 10) (.inl (0, 2304, .inl fun k => zi (f k))) = q_mw h am (uA M 10 f) := m_up 10 (by omega) rfl m_uA10
theorem m_a11 : (q_mw h am M).1 (am + 11) = some (.inl (3, 60, .inl fun k => zi (M 11 k))) := m_at 11 (by omega)
theorem m_g11 (h1 : 0 ≤ z) (h2 : z < 60) : q_gI E (q_mw h am M) 3 .char (am + 11) (zi z) = some (.int (zi (M 11 z))) := (q_gI_of m_a11 h1 h2 (by decide)).trans (by simp only [Int.toNat_of_nonneg h1])
theorem m_s11 (h1 : 0 ≤ z) (h2 : z < 60) : q_sI (q_mw h am M) 3 (am + 11) (zi z) (zi v) = some (q_mw h am (uM M 11 z v)) := (q_sI_of m_a11 h1 h2 (by decide)).trans (congrArg some (m_up 11 (by omega) (by rw [u1_toNat h1]; rfl) m_uA11))
theorem m_w11 {f : Int → Int} : q_up (q_mw h am M) (am + 11) (.inl (3, 60, .inl fun k => zi (f k))) = q_mw h am (uA M 11 f) := m_up 11 (by omega) rfl m_uA11
end MW
