/-! calls, ends, throws: the abstract machine's runs are the machine's -/
def q_ws (M : q_M) : List Cond := q_cw M :: lw_tbl.filter goodWord
def q_rm (M : q_M) (mc ms : Nat) : Room := { frames := q_hgt M, cells := mc, slots := ms, locals := 64 * (q_hgt M + 2) }
theorem q_cw_good (M : q_M) : goodWord (q_cw M) = true := by
  unfold q_cw
  split <;> rfl
theorem q_cw_nil {M : q_M} (h : q_hnd M = []) : q_cw M = Cond.code M.1 M.2.1 M.2.2.1 (q_ret M) := by
  unfold q_cw
  rw [show M.2.2.2.2.2.2.2 = [] from h]
theorem q_cw_cons {M : q_M} {a b} (h : q_hnd M = a :: b) : q_cw M = Cond.codeWith M.1 M.2.1 M.2.2.1 (q_ret M) (q_hnd M) := by
  unfold q_cw
  rw [show M.2.2.2.2.2.2.2 = a :: b from h]
  show _ = Cond.codeWith _ _ _ _ (q_hnd M)
  rw [h]
theorem q_ws_in {M : q_M} (hM : q_mok M) : ∀ w ∈ q_ws M, w ∈ lw_tbl ∧ goodWord w = true := by
  intro w hw
  rcases List.mem_cons.mp hw with h | h
  · rw [h]; exact ⟨List.mem_of_getElem? hM.1, q_cw_good M⟩
  · exact List.mem_filter.mp h
/-- a method's start: its arguments, a later state, the heap -/
def q_Pc (D : va_G) (cid : Nat → ClassId) (s0 : State) (vs : List Value) (h : q_H) : Array Value → State → Prop := fun a U => a = vs.toArray ∧ q_Y s0 U ∧ q_hp D cid s0.heap.size h U.heap
theorem q_Pc_blind {D : va_G} {cid : Nat → ClassId} {s0 : State} {vs : List Value} {h : q_H} : FrameBlind (q_Pc D cid s0 vs h) := fun _ _ _ _ q => q
/-- a method's end: r and the heap h' -/
def q_Qc (D : va_G) (cid : Nat → ClassId) (s0 : State) (r : q_R) (h' : q_H) : Array Value → State → Outcome → State → Prop := fun _ st o t => (∃ v, r = .inl v ∧ o = .returned v) ∧ va_F (q_A s0) st t ∧ q_hp D cid s0.heap.size h' t.heap
def q_XC (D : va_G) (cid : Nat → ClassId) (s0 : State) (r : q_R) (h' : q_H) : String → State → State → Prop := fun x st t => r = .inr x ∧ va_F (q_A s0) st t ∧ q_hp D cid s0.heap.size h' t.heap
/-- an end's instruction -/
def q_rok (i : Instr) (ret : Option FieldType) : Option Value → Prop
  | none => i = .return_ ∧ ret = none
  | some (.int v) => i = .ireturn ∧ ∃ ty, ret = some ty ∧ narrow ty (.int v) = .int v
  | some (.long _) => i = .lreturn ∧ ret = some .long
  | some (.float _) => i = .freturn ∧ ret = some .float
  | some (.double _) => i = .dreturn ∧ ret = some .double
  | some (.ref _) => i = .areturn ∧ ∃ rt, ret = some rt ∧ ((∃ n, rt = .object n) ∨ ∃ t, rt = .array t)
  | _ => False
section QS
variable {p : Program} {l : Launch} {e : Env} {R : Room} {s s0 : State} {m : MethodId} {args : Array Value} {below : List Frame} {meth : Method} {c : Code} {H : Heap} {locs : List Loc} {Q : State → Prop} {cells slots : Nat} {rest : List Value}
variable {E : q_E} {D : va_G} {cid : Nat → ClassId} {M : q_M} {pc : Nat} {ls st : List Value} {h : q_H} {L : Array Slot} {f : q_F} {c0 n0 : Nat}
theorem q_hp_keep {h1 : q_H} {H1 : Heap} (hH : q_hp D cid s0.heap.size h1 H) (hz : H1.size = H.size + 1) (ho : ∀ q : Nat, q < H.size → H1[q]? = H[q]?) {k1 k2 : Nat} : q_hp D cid s0.heap.size (h1.1, h1.2.1.map (· + 1), k1, k2) H1 :=
  ⟨fun t ht => by
    obtain ⟨u, hu, rfl⟩ := Option.map_eq_some_iff.mp ht
    rw [hz, hH.1 u hu], fun a e ha => ⟨(hH.2 a e ha).1, (hH.2 a e ha).2.kept (ho a (hH.2 a e ha).2.lt)⟩⟩
/-- what the frame owes at its end -/
def q_End (p : Program) (l : Launch) (e : Env) (R : Room) (s s0 : State) (m : MethodId) (args : Array Value) (below : List Frame) (meth : Method) (c : Code) (Q : State → Prop) (D : va_G) (cid : Nat → ClassId) (M : q_M) (c0 n0 : Nat) (r : q_R) (h' : q_H) : Prop :=
  (∀ v, r = .inl v → ∀ (H1 : Heap) (locs1 : List Loc) (L1 : Array Slot) (pc1 : Nat) (i : Instr), q_hp D cid s0.heap.size h' H1 → va_S (q_A s0) s.heap H1 locs1 → decode M.2.1 pc1 = .ok (i, 1) → q_rok i (q_ret M) v → W p l e R s m args below meth c H1 locs1 (h'.2.2.1 - c0) (h'.2.2.2 - n0) Q (F0 m pc1 L1 v.toList)) ∧
  (∀ x, r = .inr x → ∀ (H1 : Heap) (locs1 : List Loc) (L1 : Array Slot) (pc1 : Nat) (st1 : List Value) (h1 : q_H) (ix ic : Nat) (ps : Nat × Nat), h' = (h1.1, h1.2.1.map (· + 1), h1.2.2.1 + 1, h1.2.2.2 + 6) → c0 ≤ h1.2.2.1 → n0 ≤ h1.2.2.2 → q_hp D cid s0.heap.size h1 H1 → va_S (q_A s0) s.heap H1 locs1 → L1.size = c.maxLocals → q_own M < 10 → q_lk (q_exc (q_own M)) ix = some (x, ic, ps) → decode M.2.1 pc1 = .ok (.new ix, 3) → q_thr M pc1 ic = true → q_hnd M = [] → q_cat st1 ≤ 8 → 7 ≤ q_hgt M →
    W p l e R s m args below meth c H1 locs1 (h1.2.2.1 - c0) (h1.2.2.2 - n0) Q (F0 m pc1 L1 st1)) ∧
  (∀ x, r = .inr x → ∀ (H1 : Heap) (locs1 : List Loc) (L1 : Array Slot) (pc1 : Nat) (st1 : List Value) (q : Addr) (ce : Cell), q_hp D cid s0.heap.size h' H1 → va_S (q_A s0) s.heap H1 locs1 → H1[q]? = some ce → ce.vm = .none → s.vm.findClass x = some ce.cls → q_hnd M = [] → vx_W p l e R s m args below meth c H1 locs1 (h'.2.2.1 - c0) (h'.2.2.2 - n0) Q (F0 m pc1 L1 st1) q)
theorem q_up2 {a : Nat} {x : va_E} : (q_up h a x).2 = h.2 := rfl
theorem q_g_pf {a ci k : Nat} {v : Value} {h' : q_H} (hv : q_pf h a ci k v = some h') : h'.2 = h.2 := by obtain ⟨_, _, _, rfl⟩ := q_pf_some hv; rfl
theorem q_g_sI {t a : Nat} {i x : Int32} {h' : q_H} (hv : q_sI h t a i x = some h') : h'.2 = h.2 := by obtain ⟨_, _, _, _, rfl⟩ := q_sI_some hv; rfl
theorem q_g_sL {a : Nat} {i : Int32} {x : Int64} {h' : q_H} (hv : q_sL h a i x = some h') : h'.2 = h.2 := by obtain ⟨_, _, _, _, rfl⟩ := q_sL_some hv; rfl
theorem q_g_sQ {a v : Nat} {i : Int32} {h' : q_H} (hv : q_sQ h a i v = some h') : h'.2 = h.2 := by obtain ⟨_, _, _, _, _, _, _, _, rfl⟩ := q_sQ_some hv; rfl
theorem q_g_cpy {a0 a : Nat} {sp dp n : Int32} {h' : q_H} (hv : q_cpy E h a0 sp a dp n = some h') : h'.2 = h.2 := by
  unfold q_cpy at hv
  repeat' (first | (cases hv; done) | (cases hv; rfl) | (split at hv))
theorem q_g_eq {h1 h2 : q_H} (e : h2.2 = h1.2) : h1.2.2.1 ≤ h2.2.2.1 ∧ h1.2.2.2 ≤ h2.2.2.2 := by rw [e]; exact ⟨Nat.le_refl _, Nat.le_refl _⟩
theorem q_g_al {a n : Nat} {x : va_E} : h.2.2.1 ≤ (q_al h a x n).2.2.1 ∧ h.2.2.2 ≤ (q_al h a x n).2.2.2 := ⟨Nat.le_succ _, Nat.le_add_right _ _⟩
theorem q_g_alm {a n k : Nat} : h.2.2.1 ≤ (q_alm h a n k).2.2.1 ∧ h.2.2.2 ≤ (q_alm h a n k).2.2.2 := ⟨by show _ ≤ _ + 1 + n; omega, by show _ ≤ _ + n + n * k; omega⟩
theorem q_g_go {off : Int} (hs : q_go pc off ls st h = some (.inl f)) : h.2.2.1 ≤ f.2.2.2.2.2.1 ∧ h.2.2.2 ≤ f.2.2.2.2.2.2 := by
  obtain ⟨t, -, rfl⟩ := q_go_some hs
  exact ⟨Nat.le_refl _, Nat.le_refl _⟩
theorem q_g_br {b : Bool} {off : Int} (hs : q_br b pc off ls st h = some (.inl f)) : h.2.2.1 ≤ f.2.2.2.2.2.1 ∧ h.2.2.2 ≤ f.2.2.2.2.2.2 := by
  unfold q_br q_nx q_if at hs
  split at hs
  · cases b <;> cases hs <;> exact ⟨Nat.le_refl _, Nat.le_refl _⟩
  · cases hs
/-- the rooms only grow -/
theorem q_grow {i : Instr} {len : Nat} (hs : q_stepI E M i len pc ls st h = some (.inl f)) : h.2.2.1 ≤ f.2.2.2.2.2.1 ∧ h.2.2.2 ≤ f.2.2.2.2.2.2 := by
  cases i <;> simp only [q_stepI, reduceCtorEq] at hs
  all_goals (repeat' (first | (exact q_g_go hs) | (exact q_g_br hs) | (exact (q_call_no hs).elim) | (exact (q_callU_no hs).elim) | (cases hs; done) | (unfold q_nx at hs; cases hs; first | exact ⟨Nat.le_refl _, Nat.le_refl _⟩ | exact q_g_al | exact q_g_alm | exact q_g_eq (q_g_pf (by assumption)) | exact q_g_eq (q_g_sI (by assumption)) | exact q_g_eq (q_g_sL (by assumption)) | exact q_g_eq (q_g_sQ (by assumption)) | exact q_g_eq (q_g_cpy (by assumption))) | (split at hs)))
end QS
section QT
variable {p : Program} {l : Launch} {e : Env} {R : Room} {s s0 : State} {m : MethodId} {args : Array Value} {below : List Frame} {meth : Method} {c : Code} {H : Heap} {locs : List Loc} {Q : State → Prop} {cells slots : Nat} {rest : List Value}
variable {E : q_E} {D : va_G} {cid : Nat → ClassId} {M : q_M} {pc : Nat} {ls st : List Value} {h : q_H} {L : Array Slot} {f : q_F} {c0 n0 : Nat}
theorem q_end_inv {i : Instr} {len : Nat} {r : q_R} {h' : q_H} (hs : q_stepI E M i len pc ls st h = some (.inr (.inr (r, h')))) :
    (∃ v, r = .inl v ∧ h' = h ∧ len = 1 ∧ q_rok i (q_ret M) v ∧ st = v.toList) ∨
    (∃ x ix ic ps, r = .inr x ∧ i = .new ix ∧ len = 3 ∧ h' = (h.1, h.2.1.map (· + 1), h.2.2.1 + 1, h.2.2.2 + 6) ∧ q_own M < 10 ∧ q_lk (q_exc (q_own M)) ix = some (x, ic, ps) ∧ q_thr M pc ic = true ∧ q_hnd M = [] ∧ q_cat st ≤ 8 ∧ 7 ≤ q_hgt M) := by
  cases i
  case ireturn =>
    simp only [q_stepI] at hs
    split at hs
    · rename_i v ty hty
      split at hs
      · rename_i hc
        cases hs
        exact Or.inl ⟨some (.int v), rfl, rfl, hc.1, ⟨rfl, ty, hty, hc.2⟩, rfl⟩
      · cases hs
    · cases hs
  case lreturn =>
    simp only [q_stepI] at hs
    split at hs
    · rename_i v hty
      split at hs
      · rename_i hc
        cases hs
        exact Or.inl ⟨some (.long v), rfl, rfl, hc, ⟨rfl, hty⟩, rfl⟩
      · cases hs
    · cases hs
  case freturn =>
    simp only [q_stepI] at hs
    split at hs
    · rename_i v hty
      split at hs
      · rename_i hc
        cases hs
        exact Or.inl ⟨some (.float v), rfl, rfl, hc, ⟨rfl, hty⟩, rfl⟩
      · cases hs
    · cases hs
  case dreturn =>
    simp only [q_stepI] at hs
    split at hs
    · rename_i v hty
      split at hs
      · rename_i hc
        cases hs
        exact Or.inl ⟨some (.double v), rfl, rfl, hc, ⟨rfl, hty⟩, rfl⟩
      · cases hs
    · cases hs
  case return_ =>
    simp only [q_stepI] at hs
    split at hs
    · rename_i hty
      split at hs
      · rename_i hc
        cases hs
        exact Or.inl ⟨none, rfl, rfl, hc, ⟨rfl, hty⟩, rfl⟩
      · cases hs
    · cases hs
  case areturn =>
    simp only [q_stepI] at hs
    split at hs
    · rename_i v n hty
      split at hs
      · rename_i hc
        cases hs
        exact Or.inl ⟨some (.ref v), rfl, rfl, hc, ⟨rfl, _, hty, Or.inl ⟨_, rfl⟩⟩, rfl⟩
      · cases hs
    · rename_i v n hty
      split at hs
      · rename_i hc
        cases hs
        exact Or.inl ⟨some (.ref v), rfl, rfl, hc, ⟨rfl, _, hty, Or.inr ⟨_, rfl⟩⟩, rfl⟩
      · cases hs
    · cases hs
  case new ix =>
    simp only [q_stepI] at hs
    split at hs
    · split at hs
      · split at hs
        · cases hs
        · cases hs
      · cases hs
    · split at hs
      · rename_i x ic ps1 ps2 hq
        split at hs
        · rename_i hc
          cases hs
          exact Or.inr ⟨x, ix, ic, (ps1, ps2), rfl, rfl, hc.1.1.1, rfl, hc.1.1.2, hq, hc.2.1, hc.2.2.1, hc.2.2.2, hc.1.2⟩
        · cases hs
      · cases hs
  all_goals (exfalso; simp only [q_stepI, reduceCtorEq] at hs)
  all_goals (repeat' (first | (cases hs; done) | (unfold q_nx at hs; cases hs; done) | (unfold q_go q_nx at hs; split at hs <;> cases hs; done) | (unfold q_br q_nx q_if at hs; split at hs <;> (try (rename_i b; cases hb : q_cond _ _ _ <;> rw [hb] at hs)) <;> cases hs; done) | (obtain ⟨-, j, vs, rest, hx, -⟩ := q_call_inv hs; cases hx; done) | (obtain ⟨-, b, ws, rest, fs, hx, -⟩ := q_callU_inv hs; cases hx; done) | (split at hs)))
end QT
