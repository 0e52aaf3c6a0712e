/-! how the abstract heap and locals stand for the machine's -/
def q_cv (cid : Nat → ClassId) : va_E → va_E
  | .inl x => .inl (cid x.1, x.2)
  | .inr o => .inr o
def q_at (t : Nat) : FieldType := match t with
  | 0 => .int
  | 1 => .long
  | 2 => .boolean
  | 3 => .char
  | 4 => .byte
  | 5 => .object RX5
  | 6 => .object RX3
  | 7 => .object RX6
  | _ => .array .int
def q_tys (cid : Nat → ClassId) : List (ClassId × FieldType) := (List.range 9).map fun t => (cid t, q_at t)
theorem q_tys_at (cid : Nat → ClassId) : ∀ t, t < 9 → (q_tys cid)[t]? = some (cid t, q_at t)
  | 0, _ => rfl
  | 1, _ => rfl
  | 2, _ => rfl
  | 3, _ => rfl
  | 4, _ => rfl
  | 5, _ => rfl
  | 6, _ => rfl
  | 7, _ => rfl
  | 8, _ => rfl
def q_hp (D : va_G) (cid : Nat → ClassId) (b0 : Nat) (h : q_H) (H : Heap) : Prop :=
  (∀ t, h.2.1 = some t → H.size = t) ∧ ∀ a e, h.1 a = some e → b0 ≤ a ∧ va_at D q_cls (a, q_cv cid e) H
theorem q_hp_put {D : va_G} {cid : Nat → ClassId} {b0 a : Nat} {e : va_E} {h : q_H} {H H1 : Heap} (hh : q_hp D cid b0 h H) (hz : H1.size = H.size) (hb : b0 ≤ a) (ho : ∀ q : Nat, q ≠ a → H1[q]? = H[q]?) (hn : va_at D q_cls (a, q_cv cid e) H1) : q_hp D cid b0 (q_up h a e) H1 := by
  refine ⟨fun t ht => hz.trans (hh.1 t ht), fun b e' hb' => ?_⟩
  have hb' : (if b = a then some e else h.1 b) = some e' := hb'
  by_cases hba : b = a
  · subst hba
    rw [if_pos rfl] at hb'
    cases hb'
    exact ⟨hb, hn⟩
  · rw [if_neg hba] at hb'
    exact ⟨(hh.2 b e' hb').1, (hh.2 b e' hb').2.kept (ho b hba)⟩
theorem q_hp_new {D : va_G} {cid : Nat → ClassId} {b0 a n : Nat} {e : va_E} {h : q_H} {H H1 : Heap} (hh : q_hp D cid b0 h H) (ha : H.size = a) (hz : H1.size = a + 1) (hb : b0 ≤ a) (ho : ∀ q : Nat, q < a → H1[q]? = H[q]?) (hn : va_at D q_cls (a, q_cv cid e) H1) : q_hp D cid b0 (q_al h a e n) H1 := by
  refine ⟨fun t ht => by cases ht; exact hz, fun b e' hb' => ?_⟩
  have hb' : (if b = a then some e else h.1 b) = some e' := hb'
  by_cases hba : b = a
  · subst hba
    rw [if_pos rfl] at hb'
    cases hb'
    exact ⟨hb, hn⟩
  · rw [if_neg hba] at hb'
    have hk := hh.2 b e' hb'
    exact ⟨hk.1, hk.2.kept (ho b (by have := hk.2.lt; dsimp only at this; omega))⟩
/-- the locals -/
def q_L (L : Array Slot) (n : Nat) (ls : List Value) : Prop := ls.length = n ∧ L.size = n ∧ lv_wf L ∧ ∀ (i : Nat) (v : Value), ls[i]? = some v → v ≠ .null → L[i]? = some (.val v)
def q_lv (ls : List Value) : List (Nat × Value) := (List.range ls.length).filterMap fun i => match (ls[i]? : Option Value) with
  | some .null => none
  | some v => some (i, v)
  | none => none
theorem q_lv_mem {ls : List Value} {i : Nat} {v : Value} : (i, v) ∈ q_lv ls ↔ ls[i]? = some v ∧ v ≠ .null := by
  unfold q_lv
  rw [List.mem_filterMap]
  constructor
  · rintro ⟨j, -, hj⟩
    split at hj
    · cases hj
    · rename_i w hw hn
      cases hj
      exact ⟨hn, hw⟩
    · cases hj
  · rintro ⟨h1, h2⟩
    refine ⟨i, List.mem_range.mpr (List.getElem?_eq_some_iff.mp h1).1, ?_⟩
    rw [h1]
    split
    · rename_i e
      cases e
      exact absurd rfl h2
    · rename_i e
      cases e
      rfl
    · rename_i e
      cases e
theorem q_L.has {L : Array Slot} {n : Nat} {ls : List Value} (h : q_L L n ls) : lv_has L n (q_lv ls) := ⟨h.2.1, h.2.2.1, fun q hq => by
  obtain ⟨i, v⟩ := q
  obtain ⟨h1, h2⟩ := q_lv_mem.mp hq
  exact h.2.2.2 i v h1 h2⟩
theorem q_L.at {L : Array Slot} {n : Nat} {ls : List Value} (h : q_L L n ls) {i : Nat} {v : Value} (hi : ls[i]? = some v) (hv : v ≠ .null) : L[i]? = some (.val v) := h.2.2.2 i v hi hv
theorem q_st1_len (ls : List Value) (i : Nat) (v : Value) : (q_st1 ls i v).length = ls.length := by
  cases i with
  | zero => simp [q_st1]
  | succ j => simp only [q_st1]; split <;> simp
theorem q_st1_get {ls : List Value} {i j : Nat} {v w : Value} (h : (q_st1 ls i v)[j]? = some w) (hw : w ≠ .null) (hj : j ≠ i) : ls[j]? = some w ∧ ¬ (j + 1 = i ∧ w.category = 2) := by
  cases i with
  | zero =>
    simp only [q_st1] at h
    rw [List.getElem?_set_ne (Ne.symm hj)] at h
    exact ⟨h, fun ⟨q, _⟩ => by omega⟩
  | succ k =>
    simp only [q_st1] at h
    rw [List.getElem?_set_ne (Ne.symm hj)] at h
    split at h
    · rename_i hc
      by_cases hk : j = k
      · subst hk
        rw [List.getElem?_set] at h
        split at h
        · split at h
          · cases h; exact absurd rfl hw
          · cases h
        · exact absurd rfl ‹_›
      · rw [List.getElem?_set_ne (Ne.symm hk)] at h
        exact ⟨h, fun ⟨q, _⟩ => hk (by omega)⟩
    · rename_i hc
      refine ⟨h, fun ⟨q, hq⟩ => ?_⟩
      have hjk : j = k := by omega
      subst hjk
      apply hc
      unfold q_ld
      rw [List.getD_eq_getElem?_getD, h]
      exact hq
theorem q_L.st1 {L1 : Array Slot} {n : Nat} {ls : List Value} {i : Nat} {v : Value} (hn : ls.length = n) (h : lv_has L1 n ((i, v) :: (q_lv ls).filter (fun q => !(q.1 == i) && !(q.1 + 1 == i && q.2.category == 2)))) : q_L L1 n (q_st1 ls i v) := by
  refine ⟨(q_st1_len ls i v).trans hn, h.1, h.2.1, fun j w hj hw => ?_⟩
  by_cases e : j = i
  · subst e
    have hv : w = v := by
      have hlt : j < (q_st1 ls j v).length := (List.getElem?_eq_some_iff.mp hj).1
      rw [q_st1_len] at hlt
      cases j with
      | zero =>
        simp only [q_st1] at hj
        rw [List.getElem?_set_self hlt] at hj
        exact (Option.some.inj hj).symm
      | succ k =>
        simp only [q_st1] at hj
        rw [List.getElem?_set_self (by split <;> first | exact hlt | simpa using hlt)] at hj
        exact (Option.some.inj hj).symm
    subst hv
    exact h.2.2 (j, w) List.mem_cons_self
  · obtain ⟨h1, h2⟩ := q_st1_get hj hw e
    refine h.2.2 (j, w) (List.mem_cons_of_mem _ (List.mem_filter.mpr ⟨q_lv_mem.mpr ⟨h1, hw⟩, ?_⟩))
    simp only [Bool.and_eq_true, Bool.not_eq_true', beq_eq_false_iff_ne, ne_eq, Bool.and_eq_false_imp, beq_iff_eq]
    exact ⟨e, fun h3 h4 => h2 ⟨h3, h4⟩⟩
theorem q_L.st2 {L1 : Array Slot} {n : Nat} {ls : List Value} {i : Nat} {v : Value} (hn : ls.length = n) (h : lv_has L1 n ((i, v) :: (q_lv ls).filter (fun q => !(q.1 == i) && (!(q.1 == i + 1) && !(q.1 + 1 == i && q.2.category == 2))))) : q_L L1 n (q_st2 ls i v) := by
  refine ⟨by simp only [q_st2, List.length_set]; exact (q_st1_len ls i v).trans hn, h.1, h.2.1, fun j w hj hw => ?_⟩
  unfold q_st2 at hj
  by_cases e2 : j = i + 1
  · subst e2
    rw [List.getElem?_set] at hj
    rw [if_pos rfl] at hj
    split at hj
    · cases hj; exact absurd rfl hw
    · cases hj
  rw [List.getElem?_set_ne (Ne.symm e2)] at hj
  by_cases e : j = i
  · subst e
    have hv : w = v := by
      have hlt : j < (q_st1 ls j v).length := (List.getElem?_eq_some_iff.mp hj).1
      rw [q_st1_len] at hlt
      cases j with
      | zero =>
        simp only [q_st1] at hj
        rw [List.getElem?_set_self hlt] at hj
        exact (Option.some.inj hj).symm
      | succ k =>
        simp only [q_st1] at hj
        rw [List.getElem?_set_self (by split <;> first | exact hlt | simpa using hlt)] at hj
        exact (Option.some.inj hj).symm
    subst hv
    exact h.2.2 (j, w) List.mem_cons_self
  · obtain ⟨h1, h2⟩ := q_st1_get hj hw e
    refine h.2.2 (j, w) (List.mem_cons_of_mem _ (List.mem_filter.mpr ⟨q_lv_mem.mpr ⟨h1, hw⟩, ?_⟩))
    simp only [Bool.and_eq_true, Bool.not_eq_true', beq_eq_false_iff_ne, ne_eq, Bool.and_eq_false_imp, beq_iff_eq]
    exact ⟨e, e2, fun h3 h4 => h2 ⟨h3, h4⟩⟩
theorem q_tgt_ok {pc t : Nat} {off : Int} (h : q_tgt pc off = some t) : (pc : Int) + off = (t : Int) := by
  unfold q_tgt at h
  split at h
  · rename_i u e
    cases h
    exact e
  · cases h
