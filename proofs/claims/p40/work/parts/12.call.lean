/-! calls: a callee's contract out of its run, and the caller's step -/
section QU
variable {p : Program} {l : Launch} {e : Env} {R : Room} {s s0 : State} {m : MethodId} {args : Array Value} {below : List Frame} {meth : Method} {c : Code} {H : Heap} {locs : List Loc} {Q : State → Prop} {cells slots mc ms : Nat} {rest : List Value}
variable {E : q_E} {D : va_G} {cid : Nat → ClassId} {M M' : q_M} {pc : Nat} {ls st vs : List Value} {h h' : q_H} {L : Array Slot} {f : q_F} {c0 n0 : Nat} {r : q_R}
theorem q_call_step {i : Instr} {len j : Nat} (hs : q_stepI E M i len pc ls st h = some (.inr (.inl (M', j, vs, rest)))) :
    (∃ ix k n ps, len = 3 ∧ ((k = 0 ∧ i = .invokestatic ix) ∨ (k = 1 ∧ i = .invokevirtual ix) ∨ (k = 2 ∧ i = .invokespecial ix)) ∧ q_lk (q_cal (q_own M)) ix = some (k, n, M', ps) ∧ q_call E M k n M' st h = some (.inr (.inl (M', j, vs, rest)))) ∨
    (∃ ix k n x ps, len = 3 ∧ ((k = 3 ∧ i = .invokevirtual ix) ∨ (k = 4 ∧ i = .invokespecial ix)) ∧ q_own M < 17 ∧ q_lk (q_cav (q_own M)) ix = some (k, n, x, M', ps) ∧ q_callU M n M' st h = some (.inr (.inl (M', j, vs, rest)))) := by
  cases i
  case invokestatic ix =>
    simp only [q_stepI] at hs
    split at hs
    · rename_i k n M1 p1 p2 p3 p4 hq
      split at hs
      · rename_i hc
        obtain ⟨-, j1, vs1, rest1, hx, -⟩ := q_call_inv hs
        cases hx
        exact Or.inl ⟨ix, k, n, _, hc.1, Or.inl ⟨hc.2, rfl⟩, hq, by rw [hc.2]; exact hs⟩
      · cases hs
    · split at hs
      · split at hs
        · split at hs
          · unfold q_nx at hs; cases hs
          · cases hs
        · cases hs
      · split at hs
        · split at hs
          · unfold q_nx at hs; cases hs
          · cases hs
        · cases hs
      · cases hs
  case invokevirtual ix =>
    simp only [q_stepI] at hs
    split at hs
    · rename_i k n M1 p1 p2 p3 p4 hq
      split at hs
      · rename_i hc
        obtain ⟨-, j1, vs1, rest1, hx, -⟩ := q_call_inv hs
        cases hx
        exact Or.inl ⟨ix, k, n, _, hc.1, Or.inr (Or.inl ⟨hc.2, rfl⟩), hq, by rw [hc.2]; exact hs⟩
      · cases hs
    · split at hs
      · rename_i k n x1 M1 p1 p2 p3 p4 p5 p6 hq
        split at hs
        · rename_i hc
          obtain ⟨-, b, ws, rest1, fs, hx, -⟩ := q_callU_inv hs
          cases hx
          exact Or.inr ⟨ix, k, n, _, _, hc.1.1, Or.inl ⟨hc.1.2, rfl⟩, hc.2, hq, hs⟩
        · cases hs
      · split at hs
        · split at hs
          · split at hs
            · unfold q_nx at hs; cases hs
            · cases hs
          · cases hs
        · cases hs
  case invokespecial ix =>
    simp only [q_stepI] at hs
    split at hs
    · rename_i k n M1 p1 p2 p3 p4 hq
      split at hs
      · rename_i hc
        obtain ⟨-, j1, vs1, rest1, hx, -⟩ := q_call_inv hs
        cases hx
        exact Or.inl ⟨ix, k, n, _, hc.1, Or.inr (Or.inr ⟨hc.2, rfl⟩), hq, by rw [hc.2]; exact hs⟩
      · cases hs
    · split at hs
      · rename_i k n x1 M1 p1 p2 p3 p4 p5 p6 hq
        split at hs
        · rename_i hc
          obtain ⟨-, b, ws, rest1, fs, hx, -⟩ := q_callU_inv hs
          cases hx
          exact Or.inr ⟨ix, k, n, _, _, hc.1.1, Or.inr ⟨hc.1.2, rfl⟩, hc.2, hq, hs⟩
        · cases hs
      · split at hs
        · split at hs
          · unfold q_nx at hs; cases hs
          · cases hs
        · cases hs
  all_goals (exfalso; simp only [q_stepI, reduceCtorEq] at hs)
  all_goals (repeat' (first | (cases hs; done) | (unfold q_nx at hs; cases hs; done) | (unfold q_go q_nx at hs; split at hs <;> cases hs; done) | (unfold q_br q_nx q_if at hs; split at hs <;> (try (cases hb : q_cond _ _ _ <;> rw [hb] at hs)) <;> cases hs; done) | (split at hs)))
/-- after a call that may throw -/
theorem q_back (hr : vx_Run p l e R s m args below meth c H locs cells slots mc ms (F0 m pc L st) rest (q_Qc D cid s0 r h' vs.toArray) (q_XC D cid s0 r h') (q_A s0)) (hS : va_S (q_A s0) s.heap H locs)
    (kr : ∀ v, r = .inl v → ∀ (H1 : Heap) (locs1 : List Loc), q_hp D cid s0.heap.size h' H1 → va_S (q_A s0) s.heap H1 locs1 → W p l e R s m args below meth c H1 locs1 (cells + mc) (slots + ms) Q (F0 m (pc + 3) L (v.toList ++ rest)))
    (kx : ∀ x, r = .inr x → ∀ (H1 : Heap) (locs1 : List Loc) (q : Addr) (ce : Cell), q_hp D cid s0.heap.size h' H1 → va_S (q_A s0) s.heap H1 locs1 → H1[q]? = some ce → ce.vm = .none → s.vm.findClass x = some ce.cls → vx_W p l e R s m args below meth c H1 locs1 (cells + mc) (slots + ms) Q (F0 m pc L rest) q) :
    W p l e R s m args below meth c H locs cells slots Q (F0 m pc L st) := by
  intro T hT X
  have keep : ∀ {st₀ t T' : State} {L1 : List Loc}, st₀.heap = H → T'.heap = t.heap → va_F (q_A s0) st₀ t → (∀ q ∈ L1, q_A s0 q.base) → va_S (q_A s0) s.heap T'.heap (locs ++ L1) := by
    intro st₀ t T' L1 h0 e1 hF hL
    obtain ⟨g1, g2⟩ := hF
    rw [h0] at g1 g2
    refine ⟨by rw [e1]; exact Nat.le_trans hS.1 g1, fun q k1 k2 => ?_, fun z hz => ?_⟩
    · rw [e1, g2 q (Nat.lt_of_lt_of_le k1 hS.1) k2]
      exact hS.2.1 q k1 k2
    · rcases List.mem_append.mp hz with k | k
      · exact hS.2.2 z k
      · exact hL z k
  rcases hr T hT X with ⟨v, st₀, t, T', L1, h0, X', hL, e1, e2, ⟨⟨v2, hr2, hv2⟩, hF, hH⟩, st1⟩ | ⟨q, st₀, t, T', L1, x, ce, h0, X', hL, e1, e2, ⟨hr2, hF, hH⟩, hce, hcv, hcl, st1⟩
  · cases hv2
    obtain ⟨t2, a1, b1⟩ := kr v hr2 T'.heap (locs ++ L1) (by rw [e1]; exact hH) (keep h0 e1 hF hL) T' rfl X'
    exact ⟨t2, st1 t2 a1, b1⟩
  · obtain ⟨t2, a1, b1⟩ := kx x hr2 T'.heap (locs ++ L1) q ce (by rw [e1]; exact hH) (keep h0 e1 hF hL) (by rw [e1]; exact hce) hcv hcl T' rfl X'
    exact ⟨t2, st1.trans a1, b1⟩
/-- after a constructor -/
theorem q_backI (hr : va_Run p l e R s m args below meth c H locs cells slots mc ms (F0 m pc L st) rest (q_Qc D cid s0 r h' vs.toArray) (q_A s0)) (hS : va_S (q_A s0) s.heap H locs)
    (kr : ∀ v, r = .inl v → ∀ (H1 : Heap) (locs1 : List Loc), q_hp D cid s0.heap.size h' H1 → va_S (q_A s0) s.heap H1 locs1 → W p l e R s m args below meth c H1 locs1 (cells + mc) (slots + ms) Q (F0 m (pc + 3) L (v.toList ++ rest))) :
    W p l e R s m args below meth c H locs cells slots Q (F0 m pc L st) := by
  intro T hT X
  obtain ⟨v, st₀, t, T', L1, h0, X', hL, e1, e2, ⟨⟨v2, hr2, hv2⟩, hF, hH⟩, st1⟩ := hr T hT X
  cases hv2
  obtain ⟨g1, g2⟩ := hF
  rw [h0] at g1 g2
  obtain ⟨t2, a1, b1⟩ := kr v hr2 T'.heap (locs ++ L1) (by rw [e1]; exact hH) ⟨by rw [e1]; exact Nat.le_trans hS.1 g1, fun q k1 k2 => by
      rw [e1, g2 q (Nat.lt_of_lt_of_le k1 hS.1) k2]
      exact hS.2.1 q k1 k2, fun z hz => by
      rcases List.mem_append.mp hz with k | k
      · exact hS.2.2 z k
      · exact hL z k⟩ T' rfl X'
  exact ⟨t2, st1 t2 a1, b1⟩
/-- a method's locals at its entry -/
theorem q_exp_len : ∀ vs : List Value, (q_exp vs).length = (lg_sl vs).length
  | [] => rfl
  | v :: vs => by
    have ih := q_exp_len vs
    unfold q_exp lg_sl at ih ⊢
    rw [List.flatMap_cons, List.flatMap_cons, List.length_append, List.length_append, ih]
    split <;> rfl
theorem q_exp_at : ∀ (vs : List Value) (k i : Nat) (v : Value), (q_exp vs)[i]? = some v → v ≠ .null → (k + i, v) ∈ lv_args k vs
  | [], k, i, v, hi, hv => by simp [q_exp] at hi
  | w :: vs, k, i, v, hi, hv => by
    have ih := q_exp_at vs
    have e : q_exp (w :: vs) = (if w.category = 2 then [w, .null] else [w]) ++ q_exp vs := by
      unfold q_exp
      rw [List.flatMap_cons]
    rw [e] at hi
    show (k + i, v) ∈ (k, w) :: lv_args (if w.category = 2 then k + 2 else k + 1) vs
    by_cases hc : w.category = 2
    · rw [if_pos hc] at hi ⊢
      match i, hi with
      | 0, hi => cases hi; exact List.mem_cons_self
      | 1, hi => cases hi; exact absurd rfl hv
      | i + 2, hi =>
        have hi : (q_exp vs)[i]? = some v := hi
        have := ih (k + 2) i v hi hv
        rw [show k + (i + 2) = k + 2 + i by omega]
        exact List.mem_cons_of_mem _ this
    · rw [if_neg hc] at hi ⊢
      match i, hi with
      | 0, hi => cases hi; exact List.mem_cons_self
      | i + 1, hi =>
        have hi : (q_exp vs)[i]? = some v := hi
        have := ih (k + 1) i v hi hv
        rw [show k + (i + 1) = k + 1 + i by omega]
        exact List.mem_cons_of_mem _ this
theorem q_entL (hlen : (q_exp vs).length ≤ M.2.2.1) (hl : lv_has L M.2.2.1 (lv_args 0 vs)) : q_L L M.2.2.1 (q_ent M vs) := by
  refine ⟨by unfold q_ent; rw [List.length_append, List.length_replicate]; omega, hl.1, hl.2.1, fun i v hi hv => ?_⟩
  unfold q_ent at hi
  by_cases hlt : i < (q_exp vs).length
  · rw [List.getElem?_append_left hlt] at hi
    have := hl.2.2 _ (q_exp_at vs 0 i v hi hv)
    simpa using this
  · rw [List.getElem?_append_right (Nat.not_lt.mp hlt)] at hi
    have := List.mem_of_getElem? hi
    exact absurd (List.eq_of_mem_replicate this) hv
end QU
