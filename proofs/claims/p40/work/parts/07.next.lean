/-! each instruction of the abstract machine is the machine's -/
abbrev q_A (s0 : State) : Nat → Prop := fun q => s0.heap.size ≤ q
/-- the static fields, by number -/
def q_sc : Nat → String × String × String
  | 0 => ("RobotAisles", "SETTING_FIRST", "[I")
  | 1 => ("RobotAisles", "SETTING_LEAST", "[I")
  | 2 => ("RobotAisles", "SETTING_MOST", "[I")
  | 3 => ("RobotAisles", "SIGNS", "[C")
  | 4 => ("java/lang/String", "COMPACT_STRINGS", "Z")
  | _ => ("jdk/internal/util/Preconditions", "SIOOBE_FORMATTER", "Ljava/util/function/BiFunction;")
/-- what holds at the law's start s0, of what doesn't change -/
def q_G (E : q_E) (D : va_G) (cid : Nat → ClassId) (s0 : State) : Prop :=
  va_K D q_cls (q_tys cid) s0 ∧ (∀ j v, E.1 j = some v → j < 6 → va_Z (q_sc j).1 (q_sc j).2.1 (q_sc j).2.2 v (q_A s0) s0 s0.heap) ∧ (∀ a ty n f, E.2 a = some (ty, n, f) → va_T ty a n f (q_A s0) s0 s0.heap) ∧
  (vx_Zq Bundle.tN "UNASSIGNED_STACK" Bundle.steD (q_A s0) s0 s0.heap ∧ vx_Zq Bundle.tN "SUPPRESSED_SENTINEL" Bundle.listD (q_A s0) s0 s0.heap) ∧
  (∀ w ∈ lw_tbl, w.onTables = true → w.before #[] s0 = true) ∧ (∀ t, 5 ≤ t → t < 8 → (Cond.arrayOver (q_at t)).before #[] s0 = true) ∧ (Cond.arrayOver (.array .int)).before #[] s0 = true ∧
  (∀ x nm, q_ncb x nm = true → va_Nc x nm s0) ∧
  (∃ adK adV : Nat → Nat, (∀ i, i < 8 → E.1 (6 + 2 * i) = some (.ref (adK i)) ∧ E.1 (7 + 2 * i) = some (.ref (adV i)) ∧ vk_R RL (q_six i) (q_stx i) (adK i) s0) ∧ vk_S 8 q_sle q_sby adK adV (q_A s0) s0 s0.heap)
/-- a later state -/
def q_Y (s0 s : State) : Prop := s0.WarmedH s.vm ∧ s0.heap.size ≤ s.heap.size ∧ ∀ q : Nat, q < s0.heap.size → s.heap[q]? = s0.heap[q]?
/-- a frame of the method M -/
def q_Fx (p : Program) (s : State) (m : MethodId) (args : Array Value) (meth : Method) (c : Code) (R : Room) (M : q_M) : Prop :=
  p.tables.exec = Jvm.exec ∧ c.code = M.2.1 ∧ meth.sig.returnType = q_ret M ∧ c.maxLocals = M.2.2.1 ∧ s.vm.findClass (q_nm (q_own M)) = some m.cls ∧ (∀ w ∈ lw_tbl, goodWord w = true → w.before args s = true) ∧ meth.locks = false ∧ (M.1.name = "<init>" → meth.name = "<init>") ∧ (¬ q_hnd M = [] → c.exceptionTable.toList = tableOf (q_hnd M)) ∧ q_hgt M ≤ R.frames ∧ 64 * (q_hgt M + 2) ≤ R.locals
section QN
variable {p : Program} {l : Launch} {e : Env} {R : Room} {s s0 : State} {m : MethodId} {args : Array Value} {below : List Frame} {meth : Method} {c : Code} {H : Heap} {locs : List Loc} {Q : State → Prop}
variable {E : q_E} {D : va_G} {cid : Nat → ClassId} {M : q_M} {pc : Nat} {ls st : List Value} {h : q_H} {L : Array Slot} {f : q_F} {c0 n0 : Nat}
theorem q_K (hG : q_G E D cid s0) (hY : q_Y s0 s) : va_K D q_cls (q_tys cid) s := hG.1.moved hY.1.alike
theorem q_word {i : Nat} {w : Cond} (hts : ∀ w ∈ lw_tbl, goodWord w = true → w.before args s = true) (hi : lw_tbl[i]? = some w) (hg : goodWord w = true) : w.before args s = true := hts w (List.mem_of_getElem? hi) hg
theorem q_Tat (hG : q_G E D cid s0) (hY : q_Y s0 s) {a n : Nat} {ty : FieldType} {g : Nat → Value} (ha : E.2 a = some (ty, n, g)) : va_T ty a n g (q_A s0) s s.heap := ((hG.2.2.1 a ty n g ha).moved hY.1.alike).kept (fun q h1 _ => hY.2.2 q h1)
theorem q_Zat (hG : q_G E D cid s0) (hY : q_Y s0 s) {j : Nat} {v : Value} (ha : E.1 j = some v) (hj : j < 6) : va_Z (q_sc j).1 (q_sc j).2.1 (q_sc j).2.2 v (q_A s0) s s.heap := ((hG.2.1 j v ha hj).moved hY.1.alike).kept (fun q h1 _ => hY.2.2 q h1)
theorem q_Sat (hG : q_G E D cid s0) (hY : q_Y s0 s) : ∃ adK adV : Nat → Nat, (∀ i, i < 8 → E.1 (6 + 2 * i) = some (.ref (adK i)) ∧ E.1 (7 + 2 * i) = some (.ref (adV i)) ∧ vk_R RL (q_six i) (q_stx i) (adK i) s) ∧ vk_S 8 q_sle q_sby adK adV (q_A s0) s s.heap := by
  obtain ⟨adK, adV, h1, h2⟩ := hG.2.2.2.2.2.2.2.2
  exact ⟨adK, adV, fun i hi => ⟨(h1 i hi).1, (h1 i hi).2.1, vk_R.warm hY.1 (h1 i hi).2.2⟩, (h2.moved hY.1.alike).kept (fun q k1 _ => hY.2.2 q k1)⟩
theorem va_ldcSW {cc : ByteArray} (hexec : p.tables.exec = Jvm.exec) (hb : c.code = cc) {own tx : String} {index q : Nat} {ls : Array Slot} {rest : List Value} {cells slots : Nat} (hown : s.vm.findClass own = some m.cls) (hZ : vk_R own index tx q s) (hdg : decode cc pc = .ok (.ldc_w index, 3))
    (k : W p l e R s m args below meth c H locs cells slots Q (F0 m (pc + 3) ls (.ref q :: rest))) : W p l e R s m args below meth c H locs cells slots Q (F0 m pc ls rest) := by
  intro T hT X
  obtain ⟨t, a1, b1⟩ := k T hT X
  exact ⟨t, X.ldcStringW hexec hown (text := tx) (a := q) hZ.1 hZ.2 (g := F0 m pc ls rest) rfl (by rw [hb]; exact hdg) t a1, b1⟩
theorem q_n_iconst {n : Int} (hF : q_Fx p s m args meth c R M) (hG : q_G E D cid s0) (hY : q_Y s0 s) {len : Nat} (hd : decode M.2.1 pc = .ok (.iconst n, len)) (hs : q_stepI E M (.iconst n) len pc ls st h = some (.inl f)) (hbd : c0 ≤ h.2.2.1 ∧ n0 ≤ h.2.2.2 ∧ f.2.2.2.2.2.1 - c0 ≤ R.cells ∧ f.2.2.2.2.2.2 - n0 ≤ R.slots) (hH : q_hp D cid s0.heap.size h H) (hS : va_S (q_A s0) s.heap H locs) (hL : q_L L M.2.2.1 ls) (kk : ∀ (H1 : Heap) (locs1 : List Loc) (L1 : Array Slot), q_hp D cid s0.heap.size f.2.2.2 H1 → va_S (q_A s0) s.heap H1 locs1 → q_L L1 M.2.2.1 f.2.1 → W p l e R s m args below meth c H1 locs1 (f.2.2.2.2.2.1 - c0) (f.2.2.2.2.2.2 - n0) Q (F0 m f.1 L1 f.2.2.1)) : W p l e R s m args below meth c H locs (h.2.2.1 - c0) (h.2.2.2 - n0) Q (F0 m pc L st) := by
  obtain ⟨hx, hb, hr, hml, hown, hts, hlk, hnm, htab, hfr, hlo⟩ := hF
  simp only [q_stepI, q_nx] at hs
  split at hs
  · rename_i hlen
    subst hlen
    cases hs
    exact lv_iconst hx hb hd rfl (kk H locs L hH hS hL)
  · cases hs
theorem q_n_bipush {n : Int} (hF : q_Fx p s m args meth c R M) (hG : q_G E D cid s0) (hY : q_Y s0 s) {len : Nat} (hd : decode M.2.1 pc = .ok (.bipush n, len)) (hs : q_stepI E M (.bipush n) len pc ls st h = some (.inl f)) (hbd : c0 ≤ h.2.2.1 ∧ n0 ≤ h.2.2.2 ∧ f.2.2.2.2.2.1 - c0 ≤ R.cells ∧ f.2.2.2.2.2.2 - n0 ≤ R.slots) (hH : q_hp D cid s0.heap.size h H) (hS : va_S (q_A s0) s.heap H locs) (hL : q_L L M.2.2.1 ls) (kk : ∀ (H1 : Heap) (locs1 : List Loc) (L1 : Array Slot), q_hp D cid s0.heap.size f.2.2.2 H1 → va_S (q_A s0) s.heap H1 locs1 → q_L L1 M.2.2.1 f.2.1 → W p l e R s m args below meth c H1 locs1 (f.2.2.2.2.2.1 - c0) (f.2.2.2.2.2.2 - n0) Q (F0 m f.1 L1 f.2.2.1)) : W p l e R s m args below meth c H locs (h.2.2.1 - c0) (h.2.2.2 - n0) Q (F0 m pc L st) := by
  obtain ⟨hx, hb, hr, hml, hown, hts, hlk, hnm, htab, hfr, hlo⟩ := hF
  simp only [q_stepI, q_nx] at hs
  split at hs
  · rename_i hlen
    subst hlen
    cases hs
    exact lv_bipush hx hb hd rfl (kk H locs L hH hS hL)
  · cases hs
theorem q_n_sipush {n : Int} (hF : q_Fx p s m args meth c R M) (hG : q_G E D cid s0) (hY : q_Y s0 s) {len : Nat} (hd : decode M.2.1 pc = .ok (.sipush n, len)) (hs : q_stepI E M (.sipush n) len pc ls st h = some (.inl f)) (hbd : c0 ≤ h.2.2.1 ∧ n0 ≤ h.2.2.2 ∧ f.2.2.2.2.2.1 - c0 ≤ R.cells ∧ f.2.2.2.2.2.2 - n0 ≤ R.slots) (hH : q_hp D cid s0.heap.size h H) (hS : va_S (q_A s0) s.heap H locs) (hL : q_L L M.2.2.1 ls) (kk : ∀ (H1 : Heap) (locs1 : List Loc) (L1 : Array Slot), q_hp D cid s0.heap.size f.2.2.2 H1 → va_S (q_A s0) s.heap H1 locs1 → q_L L1 M.2.2.1 f.2.1 → W p l e R s m args below meth c H1 locs1 (f.2.2.2.2.2.1 - c0) (f.2.2.2.2.2.2 - n0) Q (F0 m f.1 L1 f.2.2.1)) : W p l e R s m args below meth c H locs (h.2.2.1 - c0) (h.2.2.2 - n0) Q (F0 m pc L st) := by
  obtain ⟨hx, hb, hr, hml, hown, hts, hlk, hnm, htab, hfr, hlo⟩ := hF
  simp only [q_stepI, q_nx] at hs
  split at hs
  · rename_i hlen
    subst hlen
    cases hs
    exact lv_sipush hx hb hd rfl (kk H locs L hH hS hL)
  · cases hs
theorem q_n_lconst {n : Fin 2} (hF : q_Fx p s m args meth c R M) (hG : q_G E D cid s0) (hY : q_Y s0 s) {len : Nat} (hd : decode M.2.1 pc = .ok (.lconst n, len)) (hs : q_stepI E M (.lconst n) len pc ls st h = some (.inl f)) (hbd : c0 ≤ h.2.2.1 ∧ n0 ≤ h.2.2.2 ∧ f.2.2.2.2.2.1 - c0 ≤ R.cells ∧ f.2.2.2.2.2.2 - n0 ≤ R.slots) (hH : q_hp D cid s0.heap.size h H) (hS : va_S (q_A s0) s.heap H locs) (hL : q_L L M.2.2.1 ls) (kk : ∀ (H1 : Heap) (locs1 : List Loc) (L1 : Array Slot), q_hp D cid s0.heap.size f.2.2.2 H1 → va_S (q_A s0) s.heap H1 locs1 → q_L L1 M.2.2.1 f.2.1 → W p l e R s m args below meth c H1 locs1 (f.2.2.2.2.2.1 - c0) (f.2.2.2.2.2.2 - n0) Q (F0 m f.1 L1 f.2.2.1)) : W p l e R s m args below meth c H locs (h.2.2.1 - c0) (h.2.2.2 - n0) Q (F0 m pc L st) := by
  obtain ⟨hx, hb, hr, hml, hown, hts, hlk, hnm, htab, hfr, hlo⟩ := hF
  simp only [q_stepI, q_nx] at hs
  split at hs
  · rename_i hlen
    subst hlen
    cases hs
    exact lv_lconst hx hb hd rfl (kk H locs L hH hS hL)
  · cases hs
theorem q_n_iadd (hF : q_Fx p s m args meth c R M) (hG : q_G E D cid s0) (hY : q_Y s0 s) {len : Nat} (hd : decode M.2.1 pc = .ok (.iadd, len)) (hs : q_stepI E M (.iadd) len pc ls st h = some (.inl f)) (hbd : c0 ≤ h.2.2.1 ∧ n0 ≤ h.2.2.2 ∧ f.2.2.2.2.2.1 - c0 ≤ R.cells ∧ f.2.2.2.2.2.2 - n0 ≤ R.slots) (hH : q_hp D cid s0.heap.size h H) (hS : va_S (q_A s0) s.heap H locs) (hL : q_L L M.2.2.1 ls) (kk : ∀ (H1 : Heap) (locs1 : List Loc) (L1 : Array Slot), q_hp D cid s0.heap.size f.2.2.2 H1 → va_S (q_A s0) s.heap H1 locs1 → q_L L1 M.2.2.1 f.2.1 → W p l e R s m args below meth c H1 locs1 (f.2.2.2.2.2.1 - c0) (f.2.2.2.2.2.2 - n0) Q (F0 m f.1 L1 f.2.2.1)) : W p l e R s m args below meth c H locs (h.2.2.1 - c0) (h.2.2.2 - n0) Q (F0 m pc L st) := by
  obtain ⟨hx, hb, hr, hml, hown, hts, hlk, hnm, htab, hfr, hlo⟩ := hF
  simp only [q_stepI, q_nx] at hs
  split at hs
  · split at hs
    · rename_i hlen
      subst hlen
      cases hs
      exact lv_iadd hx hb hd (kk H locs L hH hS hL)
    · cases hs
  · cases hs
theorem q_n_isub (hF : q_Fx p s m args meth c R M) (hG : q_G E D cid s0) (hY : q_Y s0 s) {len : Nat} (hd : decode M.2.1 pc = .ok (.isub, len)) (hs : q_stepI E M (.isub) len pc ls st h = some (.inl f)) (hbd : c0 ≤ h.2.2.1 ∧ n0 ≤ h.2.2.2 ∧ f.2.2.2.2.2.1 - c0 ≤ R.cells ∧ f.2.2.2.2.2.2 - n0 ≤ R.slots) (hH : q_hp D cid s0.heap.size h H) (hS : va_S (q_A s0) s.heap H locs) (hL : q_L L M.2.2.1 ls) (kk : ∀ (H1 : Heap) (locs1 : List Loc) (L1 : Array Slot), q_hp D cid s0.heap.size f.2.2.2 H1 → va_S (q_A s0) s.heap H1 locs1 → q_L L1 M.2.2.1 f.2.1 → W p l e R s m args below meth c H1 locs1 (f.2.2.2.2.2.1 - c0) (f.2.2.2.2.2.2 - n0) Q (F0 m f.1 L1 f.2.2.1)) : W p l e R s m args below meth c H locs (h.2.2.1 - c0) (h.2.2.2 - n0) Q (F0 m pc L st) := by
  obtain ⟨hx, hb, hr, hml, hown, hts, hlk, hnm, htab, hfr, hlo⟩ := hF
  simp only [q_stepI, q_nx] at hs
  split at hs
  · split at hs
    · rename_i hlen
      subst hlen
      cases hs
      exact lv_isub hx hb hd (kk H locs L hH hS hL)
    · cases hs
  · cases hs
theorem q_n_imul (hF : q_Fx p s m args meth c R M) (hG : q_G E D cid s0) (hY : q_Y s0 s) {len : Nat} (hd : decode M.2.1 pc = .ok (.imul, len)) (hs : q_stepI E M (.imul) len pc ls st h = some (.inl f)) (hbd : c0 ≤ h.2.2.1 ∧ n0 ≤ h.2.2.2 ∧ f.2.2.2.2.2.1 - c0 ≤ R.cells ∧ f.2.2.2.2.2.2 - n0 ≤ R.slots) (hH : q_hp D cid s0.heap.size h H) (hS : va_S (q_A s0) s.heap H locs) (hL : q_L L M.2.2.1 ls) (kk : ∀ (H1 : Heap) (locs1 : List Loc) (L1 : Array Slot), q_hp D cid s0.heap.size f.2.2.2 H1 → va_S (q_A s0) s.heap H1 locs1 → q_L L1 M.2.2.1 f.2.1 → W p l e R s m args below meth c H1 locs1 (f.2.2.2.2.2.1 - c0) (f.2.2.2.2.2.2 - n0) Q (F0 m f.1 L1 f.2.2.1)) : W p l e R s m args below meth c H locs (h.2.2.1 - c0) (h.2.2.2 - n0) Q (F0 m pc L st) := by
  obtain ⟨hx, hb, hr, hml, hown, hts, hlk, hnm, htab, hfr, hlo⟩ := hF
  simp only [q_stepI, q_nx] at hs
  split at hs
  · split at hs
    · rename_i hlen
      subst hlen
      cases hs
      exact lv_imul hx hb hd (kk H locs L hH hS hL)
    · cases hs
  · cases hs
theorem q_n_iand (hF : q_Fx p s m args meth c R M) (hG : q_G E D cid s0) (hY : q_Y s0 s) {len : Nat} (hd : decode M.2.1 pc = .ok (.iand, len)) (hs : q_stepI E M (.iand) len pc ls st h = some (.inl f)) (hbd : c0 ≤ h.2.2.1 ∧ n0 ≤ h.2.2.2 ∧ f.2.2.2.2.2.1 - c0 ≤ R.cells ∧ f.2.2.2.2.2.2 - n0 ≤ R.slots) (hH : q_hp D cid s0.heap.size h H) (hS : va_S (q_A s0) s.heap H locs) (hL : q_L L M.2.2.1 ls) (kk : ∀ (H1 : Heap) (locs1 : List Loc) (L1 : Array Slot), q_hp D cid s0.heap.size f.2.2.2 H1 → va_S (q_A s0) s.heap H1 locs1 → q_L L1 M.2.2.1 f.2.1 → W p l e R s m args below meth c H1 locs1 (f.2.2.2.2.2.1 - c0) (f.2.2.2.2.2.2 - n0) Q (F0 m f.1 L1 f.2.2.1)) : W p l e R s m args below meth c H locs (h.2.2.1 - c0) (h.2.2.2 - n0) Q (F0 m pc L st) := by
  obtain ⟨hx, hb, hr, hml, hown, hts, hlk, hnm, htab, hfr, hlo⟩ := hF
  simp only [q_stepI, q_nx] at hs
  split at hs
  · split at hs
    · rename_i hlen
      subst hlen
      cases hs
      exact lv_iand hx hb hd (kk H locs L hH hS hL)
    · cases hs
  · cases hs
theorem q_n_ior (hF : q_Fx p s m args meth c R M) (hG : q_G E D cid s0) (hY : q_Y s0 s) {len : Nat} (hd : decode M.2.1 pc = .ok (.ior, len)) (hs : q_stepI E M (.ior) len pc ls st h = some (.inl f)) (hbd : c0 ≤ h.2.2.1 ∧ n0 ≤ h.2.2.2 ∧ f.2.2.2.2.2.1 - c0 ≤ R.cells ∧ f.2.2.2.2.2.2 - n0 ≤ R.slots) (hH : q_hp D cid s0.heap.size h H) (hS : va_S (q_A s0) s.heap H locs) (hL : q_L L M.2.2.1 ls) (kk : ∀ (H1 : Heap) (locs1 : List Loc) (L1 : Array Slot), q_hp D cid s0.heap.size f.2.2.2 H1 → va_S (q_A s0) s.heap H1 locs1 → q_L L1 M.2.2.1 f.2.1 → W p l e R s m args below meth c H1 locs1 (f.2.2.2.2.2.1 - c0) (f.2.2.2.2.2.2 - n0) Q (F0 m f.1 L1 f.2.2.1)) : W p l e R s m args below meth c H locs (h.2.2.1 - c0) (h.2.2.2 - n0) Q (F0 m pc L st) := by
  obtain ⟨hx, hb, hr, hml, hown, hts, hlk, hnm, htab, hfr, hlo⟩ := hF
  simp only [q_stepI, q_nx] at hs
  split at hs
  · split at hs
    · rename_i hlen
      subst hlen
      cases hs
      exact lv_ior hx hb hd (kk H locs L hH hS hL)
    · cases hs
  · cases hs
theorem q_n_ishl (hF : q_Fx p s m args meth c R M) (hG : q_G E D cid s0) (hY : q_Y s0 s) {len : Nat} (hd : decode M.2.1 pc = .ok (.ishl, len)) (hs : q_stepI E M (.ishl) len pc ls st h = some (.inl f)) (hbd : c0 ≤ h.2.2.1 ∧ n0 ≤ h.2.2.2 ∧ f.2.2.2.2.2.1 - c0 ≤ R.cells ∧ f.2.2.2.2.2.2 - n0 ≤ R.slots) (hH : q_hp D cid s0.heap.size h H) (hS : va_S (q_A s0) s.heap H locs) (hL : q_L L M.2.2.1 ls) (kk : ∀ (H1 : Heap) (locs1 : List Loc) (L1 : Array Slot), q_hp D cid s0.heap.size f.2.2.2 H1 → va_S (q_A s0) s.heap H1 locs1 → q_L L1 M.2.2.1 f.2.1 → W p l e R s m args below meth c H1 locs1 (f.2.2.2.2.2.1 - c0) (f.2.2.2.2.2.2 - n0) Q (F0 m f.1 L1 f.2.2.1)) : W p l e R s m args below meth c H locs (h.2.2.1 - c0) (h.2.2.2 - n0) Q (F0 m pc L st) := by
  obtain ⟨hx, hb, hr, hml, hown, hts, hlk, hnm, htab, hfr, hlo⟩ := hF
  simp only [q_stepI, q_nx] at hs
  split at hs
  · split at hs
    · rename_i hlen
      subst hlen
      cases hs
      exact lv_ishl hx hb hd (kk H locs L hH hS hL)
    · cases hs
  · cases hs
theorem q_n_ishr (hF : q_Fx p s m args meth c R M) (hG : q_G E D cid s0) (hY : q_Y s0 s) {len : Nat} (hd : decode M.2.1 pc = .ok (.ishr, len)) (hs : q_stepI E M (.ishr) len pc ls st h = some (.inl f)) (hbd : c0 ≤ h.2.2.1 ∧ n0 ≤ h.2.2.2 ∧ f.2.2.2.2.2.1 - c0 ≤ R.cells ∧ f.2.2.2.2.2.2 - n0 ≤ R.slots) (hH : q_hp D cid s0.heap.size h H) (hS : va_S (q_A s0) s.heap H locs) (hL : q_L L M.2.2.1 ls) (kk : ∀ (H1 : Heap) (locs1 : List Loc) (L1 : Array Slot), q_hp D cid s0.heap.size f.2.2.2 H1 → va_S (q_A s0) s.heap H1 locs1 → q_L L1 M.2.2.1 f.2.1 → W p l e R s m args below meth c H1 locs1 (f.2.2.2.2.2.1 - c0) (f.2.2.2.2.2.2 - n0) Q (F0 m f.1 L1 f.2.2.1)) : W p l e R s m args below meth c H locs (h.2.2.1 - c0) (h.2.2.2 - n0) Q (F0 m pc L st) := by
  obtain ⟨hx, hb, hr, hml, hown, hts, hlk, hnm, htab, hfr, hlo⟩ := hF
  simp only [q_stepI, q_nx] at hs
  split at hs
  · split at hs
    · rename_i hlen
      subst hlen
      cases hs
      exact lv_ishr hx hb hd (kk H locs L hH hS hL)
    · cases hs
  · cases hs
theorem q_n_land (hF : q_Fx p s m args meth c R M) (hG : q_G E D cid s0) (hY : q_Y s0 s) {len : Nat} (hd : decode M.2.1 pc = .ok (.land, len)) (hs : q_stepI E M (.land) len pc ls st h = some (.inl f)) (hbd : c0 ≤ h.2.2.1 ∧ n0 ≤ h.2.2.2 ∧ f.2.2.2.2.2.1 - c0 ≤ R.cells ∧ f.2.2.2.2.2.2 - n0 ≤ R.slots) (hH : q_hp D cid s0.heap.size h H) (hS : va_S (q_A s0) s.heap H locs) (hL : q_L L M.2.2.1 ls) (kk : ∀ (H1 : Heap) (locs1 : List Loc) (L1 : Array Slot), q_hp D cid s0.heap.size f.2.2.2 H1 → va_S (q_A s0) s.heap H1 locs1 → q_L L1 M.2.2.1 f.2.1 → W p l e R s m args below meth c H1 locs1 (f.2.2.2.2.2.1 - c0) (f.2.2.2.2.2.2 - n0) Q (F0 m f.1 L1 f.2.2.1)) : W p l e R s m args below meth c H locs (h.2.2.1 - c0) (h.2.2.2 - n0) Q (F0 m pc L st) := by
  obtain ⟨hx, hb, hr, hml, hown, hts, hlk, hnm, htab, hfr, hlo⟩ := hF
  simp only [q_stepI, q_nx] at hs
  split at hs
  · split at hs
    · rename_i hlen
      subst hlen
      cases hs
      exact lv_land hx hb hd (kk H locs L hH hS hL)
    · cases hs
  · cases hs
theorem q_n_lor (hF : q_Fx p s m args meth c R M) (hG : q_G E D cid s0) (hY : q_Y s0 s) {len : Nat} (hd : decode M.2.1 pc = .ok (.lor, len)) (hs : q_stepI E M (.lor) len pc ls st h = some (.inl f)) (hbd : c0 ≤ h.2.2.1 ∧ n0 ≤ h.2.2.2 ∧ f.2.2.2.2.2.1 - c0 ≤ R.cells ∧ f.2.2.2.2.2.2 - n0 ≤ R.slots) (hH : q_hp D cid s0.heap.size h H) (hS : va_S (q_A s0) s.heap H locs) (hL : q_L L M.2.2.1 ls) (kk : ∀ (H1 : Heap) (locs1 : List Loc) (L1 : Array Slot), q_hp D cid s0.heap.size f.2.2.2 H1 → va_S (q_A s0) s.heap H1 locs1 → q_L L1 M.2.2.1 f.2.1 → W p l e R s m args below meth c H1 locs1 (f.2.2.2.2.2.1 - c0) (f.2.2.2.2.2.2 - n0) Q (F0 m f.1 L1 f.2.2.1)) : W p l e R s m args below meth c H locs (h.2.2.1 - c0) (h.2.2.2 - n0) Q (F0 m pc L st) := by
  obtain ⟨hx, hb, hr, hml, hown, hts, hlk, hnm, htab, hfr, hlo⟩ := hF
  simp only [q_stepI, q_nx] at hs
  split at hs
  · split at hs
    · rename_i hlen
      subst hlen
      cases hs
      exact lv_lor hx hb hd (kk H locs L hH hS hL)
    · cases hs
  · cases hs
theorem q_n_lxor (hF : q_Fx p s m args meth c R M) (hG : q_G E D cid s0) (hY : q_Y s0 s) {len : Nat} (hd : decode M.2.1 pc = .ok (.lxor, len)) (hs : q_stepI E M (.lxor) len pc ls st h = some (.inl f)) (hbd : c0 ≤ h.2.2.1 ∧ n0 ≤ h.2.2.2 ∧ f.2.2.2.2.2.1 - c0 ≤ R.cells ∧ f.2.2.2.2.2.2 - n0 ≤ R.slots) (hH : q_hp D cid s0.heap.size h H) (hS : va_S (q_A s0) s.heap H locs) (hL : q_L L M.2.2.1 ls) (kk : ∀ (H1 : Heap) (locs1 : List Loc) (L1 : Array Slot), q_hp D cid s0.heap.size f.2.2.2 H1 → va_S (q_A s0) s.heap H1 locs1 → q_L L1 M.2.2.1 f.2.1 → W p l e R s m args below meth c H1 locs1 (f.2.2.2.2.2.1 - c0) (f.2.2.2.2.2.2 - n0) Q (F0 m f.1 L1 f.2.2.1)) : W p l e R s m args below meth c H locs (h.2.2.1 - c0) (h.2.2.2 - n0) Q (F0 m pc L st) := by
  obtain ⟨hx, hb, hr, hml, hown, hts, hlk, hnm, htab, hfr, hlo⟩ := hF
  simp only [q_stepI, q_nx] at hs
  split at hs
  · split at hs
    · rename_i hlen
      subst hlen
      cases hs
      exact lv_lxor hx hb hd (kk H locs L hH hS hL)
    · cases hs
  · cases hs
theorem q_n_lshl (hF : q_Fx p s m args meth c R M) (hG : q_G E D cid s0) (hY : q_Y s0 s) {len : Nat} (hd : decode M.2.1 pc = .ok (.lshl, len)) (hs : q_stepI E M (.lshl) len pc ls st h = some (.inl f)) (hbd : c0 ≤ h.2.2.1 ∧ n0 ≤ h.2.2.2 ∧ f.2.2.2.2.2.1 - c0 ≤ R.cells ∧ f.2.2.2.2.2.2 - n0 ≤ R.slots) (hH : q_hp D cid s0.heap.size h H) (hS : va_S (q_A s0) s.heap H locs) (hL : q_L L M.2.2.1 ls) (kk : ∀ (H1 : Heap) (locs1 : List Loc) (L1 : Array Slot), q_hp D cid s0.heap.size f.2.2.2 H1 → va_S (q_A s0) s.heap H1 locs1 → q_L L1 M.2.2.1 f.2.1 → W p l e R s m args below meth c H1 locs1 (f.2.2.2.2.2.1 - c0) (f.2.2.2.2.2.2 - n0) Q (F0 m f.1 L1 f.2.2.1)) : W p l e R s m args below meth c H locs (h.2.2.1 - c0) (h.2.2.2 - n0) Q (F0 m pc L st) := by
  obtain ⟨hx, hb, hr, hml, hown, hts, hlk, hnm, htab, hfr, hlo⟩ := hF
  simp only [q_stepI, q_nx] at hs
  split at hs
  · split at hs
    · rename_i hlen
      subst hlen
      cases hs
      exact lv_lshl hx hb hd rfl (kk H locs L hH hS hL)
    · cases hs
  · cases hs
theorem q_n_lushr (hF : q_Fx p s m args meth c R M) (hG : q_G E D cid s0) (hY : q_Y s0 s) {len : Nat} (hd : decode M.2.1 pc = .ok (.lushr, len)) (hs : q_stepI E M (.lushr) len pc ls st h = some (.inl f)) (hbd : c0 ≤ h.2.2.1 ∧ n0 ≤ h.2.2.2 ∧ f.2.2.2.2.2.1 - c0 ≤ R.cells ∧ f.2.2.2.2.2.2 - n0 ≤ R.slots) (hH : q_hp D cid s0.heap.size h H) (hS : va_S (q_A s0) s.heap H locs) (hL : q_L L M.2.2.1 ls) (kk : ∀ (H1 : Heap) (locs1 : List Loc) (L1 : Array Slot), q_hp D cid s0.heap.size f.2.2.2 H1 → va_S (q_A s0) s.heap H1 locs1 → q_L L1 M.2.2.1 f.2.1 → W p l e R s m args below meth c H1 locs1 (f.2.2.2.2.2.1 - c0) (f.2.2.2.2.2.2 - n0) Q (F0 m f.1 L1 f.2.2.1)) : W p l e R s m args below meth c H locs (h.2.2.1 - c0) (h.2.2.2 - n0) Q (F0 m pc L st) := by
  obtain ⟨hx, hb, hr, hml, hown, hts, hlk, hnm, htab, hfr, hlo⟩ := hF
  simp only [q_stepI, q_nx] at hs
  split at hs
  · split at hs
    · rename_i hlen
      subst hlen
      cases hs
      exact lv_lushr hx hb hd rfl (kk H locs L hH hS hL)
    · cases hs
  · cases hs
theorem q_n_i2l (hF : q_Fx p s m args meth c R M) (hG : q_G E D cid s0) (hY : q_Y s0 s) {len : Nat} (hd : decode M.2.1 pc = .ok (.i2l, len)) (hs : q_stepI E M (.i2l) len pc ls st h = some (.inl f)) (hbd : c0 ≤ h.2.2.1 ∧ n0 ≤ h.2.2.2 ∧ f.2.2.2.2.2.1 - c0 ≤ R.cells ∧ f.2.2.2.2.2.2 - n0 ≤ R.slots) (hH : q_hp D cid s0.heap.size h H) (hS : va_S (q_A s0) s.heap H locs) (hL : q_L L M.2.2.1 ls) (kk : ∀ (H1 : Heap) (locs1 : List Loc) (L1 : Array Slot), q_hp D cid s0.heap.size f.2.2.2 H1 → va_S (q_A s0) s.heap H1 locs1 → q_L L1 M.2.2.1 f.2.1 → W p l e R s m args below meth c H1 locs1 (f.2.2.2.2.2.1 - c0) (f.2.2.2.2.2.2 - n0) Q (F0 m f.1 L1 f.2.2.1)) : W p l e R s m args below meth c H locs (h.2.2.1 - c0) (h.2.2.2 - n0) Q (F0 m pc L st) := by
  obtain ⟨hx, hb, hr, hml, hown, hts, hlk, hnm, htab, hfr, hlo⟩ := hF
  simp only [q_stepI, q_nx] at hs
  split at hs
  · split at hs
    · rename_i hlen
      subst hlen
      cases hs
      exact lv_i2l hx hb hd rfl (kk H locs L hH hS hL)
    · cases hs
  · cases hs
theorem q_n_i2c (hF : q_Fx p s m args meth c R M) (hG : q_G E D cid s0) (hY : q_Y s0 s) {len : Nat} (hd : decode M.2.1 pc = .ok (.i2c, len)) (hs : q_stepI E M (.i2c) len pc ls st h = some (.inl f)) (hbd : c0 ≤ h.2.2.1 ∧ n0 ≤ h.2.2.2 ∧ f.2.2.2.2.2.1 - c0 ≤ R.cells ∧ f.2.2.2.2.2.2 - n0 ≤ R.slots) (hH : q_hp D cid s0.heap.size h H) (hS : va_S (q_A s0) s.heap H locs) (hL : q_L L M.2.2.1 ls) (kk : ∀ (H1 : Heap) (locs1 : List Loc) (L1 : Array Slot), q_hp D cid s0.heap.size f.2.2.2 H1 → va_S (q_A s0) s.heap H1 locs1 → q_L L1 M.2.2.1 f.2.1 → W p l e R s m args below meth c H1 locs1 (f.2.2.2.2.2.1 - c0) (f.2.2.2.2.2.2 - n0) Q (F0 m f.1 L1 f.2.2.1)) : W p l e R s m args below meth c H locs (h.2.2.1 - c0) (h.2.2.2 - n0) Q (F0 m pc L st) := by
  obtain ⟨hx, hb, hr, hml, hown, hts, hlk, hnm, htab, hfr, hlo⟩ := hF
  simp only [q_stepI, q_nx] at hs
  split at hs
  · split at hs
    · rename_i hlen
      subst hlen
      cases hs
      exact lv_i2c hx hb hd rfl (kk H locs L hH hS hL)
    · cases hs
  · cases hs
theorem q_n_i2b (hF : q_Fx p s m args meth c R M) (hG : q_G E D cid s0) (hY : q_Y s0 s) {len : Nat} (hd : decode M.2.1 pc = .ok (.i2b, len)) (hs : q_stepI E M (.i2b) len pc ls st h = some (.inl f)) (hbd : c0 ≤ h.2.2.1 ∧ n0 ≤ h.2.2.2 ∧ f.2.2.2.2.2.1 - c0 ≤ R.cells ∧ f.2.2.2.2.2.2 - n0 ≤ R.slots) (hH : q_hp D cid s0.heap.size h H) (hS : va_S (q_A s0) s.heap H locs) (hL : q_L L M.2.2.1 ls) (kk : ∀ (H1 : Heap) (locs1 : List Loc) (L1 : Array Slot), q_hp D cid s0.heap.size f.2.2.2 H1 → va_S (q_A s0) s.heap H1 locs1 → q_L L1 M.2.2.1 f.2.1 → W p l e R s m args below meth c H1 locs1 (f.2.2.2.2.2.1 - c0) (f.2.2.2.2.2.2 - n0) Q (F0 m f.1 L1 f.2.2.1)) : W p l e R s m args below meth c H locs (h.2.2.1 - c0) (h.2.2.2 - n0) Q (F0 m pc L st) := by
  obtain ⟨hx, hb, hr, hml, hown, hts, hlk, hnm, htab, hfr, hlo⟩ := hF
  simp only [q_stepI, q_nx] at hs
  split at hs
  · split at hs
    · rename_i hlen
      subst hlen
      cases hs
      exact lv_i2b hx hb hd rfl (kk H locs L hH hS hL)
    · cases hs
  · cases hs
theorem q_n_i2f (hF : q_Fx p s m args meth c R M) (hG : q_G E D cid s0) (hY : q_Y s0 s) {len : Nat} (hd : decode M.2.1 pc = .ok (.i2f, len)) (hs : q_stepI E M (.i2f) len pc ls st h = some (.inl f)) (hbd : c0 ≤ h.2.2.1 ∧ n0 ≤ h.2.2.2 ∧ f.2.2.2.2.2.1 - c0 ≤ R.cells ∧ f.2.2.2.2.2.2 - n0 ≤ R.slots) (hH : q_hp D cid s0.heap.size h H) (hS : va_S (q_A s0) s.heap H locs) (hL : q_L L M.2.2.1 ls) (kk : ∀ (H1 : Heap) (locs1 : List Loc) (L1 : Array Slot), q_hp D cid s0.heap.size f.2.2.2 H1 → va_S (q_A s0) s.heap H1 locs1 → q_L L1 M.2.2.1 f.2.1 → W p l e R s m args below meth c H1 locs1 (f.2.2.2.2.2.1 - c0) (f.2.2.2.2.2.2 - n0) Q (F0 m f.1 L1 f.2.2.1)) : W p l e R s m args below meth c H locs (h.2.2.1 - c0) (h.2.2.2 - n0) Q (F0 m pc L st) := by
  obtain ⟨hx, hb, hr, hml, hown, hts, hlk, hnm, htab, hfr, hlo⟩ := hF
  simp only [q_stepI, q_nx] at hs
  split at hs
  · split at hs
    · rename_i hlen
      subst hlen
      cases hs
      exact lv_i2f hx hb hd (kk H locs L hH hS hL)
    · cases hs
  · cases hs
theorem q_n_i2d (hF : q_Fx p s m args meth c R M) (hG : q_G E D cid s0) (hY : q_Y s0 s) {len : Nat} (hd : decode M.2.1 pc = .ok (.i2d, len)) (hs : q_stepI E M (.i2d) len pc ls st h = some (.inl f)) (hbd : c0 ≤ h.2.2.1 ∧ n0 ≤ h.2.2.2 ∧ f.2.2.2.2.2.1 - c0 ≤ R.cells ∧ f.2.2.2.2.2.2 - n0 ≤ R.slots) (hH : q_hp D cid s0.heap.size h H) (hS : va_S (q_A s0) s.heap H locs) (hL : q_L L M.2.2.1 ls) (kk : ∀ (H1 : Heap) (locs1 : List Loc) (L1 : Array Slot), q_hp D cid s0.heap.size f.2.2.2 H1 → va_S (q_A s0) s.heap H1 locs1 → q_L L1 M.2.2.1 f.2.1 → W p l e R s m args below meth c H1 locs1 (f.2.2.2.2.2.1 - c0) (f.2.2.2.2.2.2 - n0) Q (F0 m f.1 L1 f.2.2.1)) : W p l e R s m args below meth c H locs (h.2.2.1 - c0) (h.2.2.2 - n0) Q (F0 m pc L st) := by
  obtain ⟨hx, hb, hr, hml, hown, hts, hlk, hnm, htab, hfr, hlo⟩ := hF
  simp only [q_stepI, q_nx] at hs
  split at hs
  · split at hs
    · rename_i hlen
      subst hlen
      cases hs
      exact lv_i2d hx hb hd (kk H locs L hH hS hL)
    · cases hs
  · cases hs
theorem q_n_f2d (hF : q_Fx p s m args meth c R M) (hG : q_G E D cid s0) (hY : q_Y s0 s) {len : Nat} (hd : decode M.2.1 pc = .ok (.f2d, len)) (hs : q_stepI E M (.f2d) len pc ls st h = some (.inl f)) (hbd : c0 ≤ h.2.2.1 ∧ n0 ≤ h.2.2.2 ∧ f.2.2.2.2.2.1 - c0 ≤ R.cells ∧ f.2.2.2.2.2.2 - n0 ≤ R.slots) (hH : q_hp D cid s0.heap.size h H) (hS : va_S (q_A s0) s.heap H locs) (hL : q_L L M.2.2.1 ls) (kk : ∀ (H1 : Heap) (locs1 : List Loc) (L1 : Array Slot), q_hp D cid s0.heap.size f.2.2.2 H1 → va_S (q_A s0) s.heap H1 locs1 → q_L L1 M.2.2.1 f.2.1 → W p l e R s m args below meth c H1 locs1 (f.2.2.2.2.2.1 - c0) (f.2.2.2.2.2.2 - n0) Q (F0 m f.1 L1 f.2.2.1)) : W p l e R s m args below meth c H locs (h.2.2.1 - c0) (h.2.2.2 - n0) Q (F0 m pc L st) := by
  obtain ⟨hx, hb, hr, hml, hown, hts, hlk, hnm, htab, hfr, hlo⟩ := hF
  simp only [q_stepI, q_nx] at hs
  split at hs
  · split at hs
    · rename_i hlen
      obtain ⟨hlen, hne⟩ := hlen
      subst hlen
      cases hs
      exact lv_f2d hx hb hd hne (kk H locs L hH hS hL)
    · cases hs
  · cases hs
theorem q_n_fdiv (hF : q_Fx p s m args meth c R M) (hG : q_G E D cid s0) (hY : q_Y s0 s) {len : Nat} (hd : decode M.2.1 pc = .ok (.fdiv, len)) (hs : q_stepI E M (.fdiv) len pc ls st h = some (.inl f)) (hbd : c0 ≤ h.2.2.1 ∧ n0 ≤ h.2.2.2 ∧ f.2.2.2.2.2.1 - c0 ≤ R.cells ∧ f.2.2.2.2.2.2 - n0 ≤ R.slots) (hH : q_hp D cid s0.heap.size h H) (hS : va_S (q_A s0) s.heap H locs) (hL : q_L L M.2.2.1 ls) (kk : ∀ (H1 : Heap) (locs1 : List Loc) (L1 : Array Slot), q_hp D cid s0.heap.size f.2.2.2 H1 → va_S (q_A s0) s.heap H1 locs1 → q_L L1 M.2.2.1 f.2.1 → W p l e R s m args below meth c H1 locs1 (f.2.2.2.2.2.1 - c0) (f.2.2.2.2.2.2 - n0) Q (F0 m f.1 L1 f.2.2.1)) : W p l e R s m args below meth c H locs (h.2.2.1 - c0) (h.2.2.2 - n0) Q (F0 m pc L st) := by
  obtain ⟨hx, hb, hr, hml, hown, hts, hlk, hnm, htab, hfr, hlo⟩ := hF
  simp only [q_stepI, q_nx] at hs
  split at hs
  · split at hs
    · rename_i hlen
      obtain ⟨hlen, hne⟩ := hlen
      subst hlen
      cases hs
      exact lv_fdiv hx hb hd hne (kk H locs L hH hS hL)
    · cases hs
  · cases hs
theorem q_n_ddiv (hF : q_Fx p s m args meth c R M) (hG : q_G E D cid s0) (hY : q_Y s0 s) {len : Nat} (hd : decode M.2.1 pc = .ok (.ddiv, len)) (hs : q_stepI E M (.ddiv) len pc ls st h = some (.inl f)) (hbd : c0 ≤ h.2.2.1 ∧ n0 ≤ h.2.2.2 ∧ f.2.2.2.2.2.1 - c0 ≤ R.cells ∧ f.2.2.2.2.2.2 - n0 ≤ R.slots) (hH : q_hp D cid s0.heap.size h H) (hS : va_S (q_A s0) s.heap H locs) (hL : q_L L M.2.2.1 ls) (kk : ∀ (H1 : Heap) (locs1 : List Loc) (L1 : Array Slot), q_hp D cid s0.heap.size f.2.2.2 H1 → va_S (q_A s0) s.heap H1 locs1 → q_L L1 M.2.2.1 f.2.1 → W p l e R s m args below meth c H1 locs1 (f.2.2.2.2.2.1 - c0) (f.2.2.2.2.2.2 - n0) Q (F0 m f.1 L1 f.2.2.1)) : W p l e R s m args below meth c H locs (h.2.2.1 - c0) (h.2.2.2 - n0) Q (F0 m pc L st) := by
  obtain ⟨hx, hb, hr, hml, hown, hts, hlk, hnm, htab, hfr, hlo⟩ := hF
  simp only [q_stepI, q_nx] at hs
  split at hs
  · split at hs
    · rename_i hlen
      obtain ⟨hlen, hne⟩ := hlen
      subst hlen
      cases hs
      exact lv_ddiv hx hb hd hne (kk H locs L hH hS hL)
    · cases hs
  · cases hs
theorem q_n_fcmp {op : CmpOp} (hF : q_Fx p s m args meth c R M) (hG : q_G E D cid s0) (hY : q_Y s0 s) {len : Nat} (hd : decode M.2.1 pc = .ok (.fcmp op, len)) (hs : q_stepI E M (.fcmp op) len pc ls st h = some (.inl f)) (hbd : c0 ≤ h.2.2.1 ∧ n0 ≤ h.2.2.2 ∧ f.2.2.2.2.2.1 - c0 ≤ R.cells ∧ f.2.2.2.2.2.2 - n0 ≤ R.slots) (hH : q_hp D cid s0.heap.size h H) (hS : va_S (q_A s0) s.heap H locs) (hL : q_L L M.2.2.1 ls) (kk : ∀ (H1 : Heap) (locs1 : List Loc) (L1 : Array Slot), q_hp D cid s0.heap.size f.2.2.2 H1 → va_S (q_A s0) s.heap H1 locs1 → q_L L1 M.2.2.1 f.2.1 → W p l e R s m args below meth c H1 locs1 (f.2.2.2.2.2.1 - c0) (f.2.2.2.2.2.2 - n0) Q (F0 m f.1 L1 f.2.2.1)) : W p l e R s m args below meth c H locs (h.2.2.1 - c0) (h.2.2.2 - n0) Q (F0 m pc L st) := by
  obtain ⟨hx, hb, hr, hml, hown, hts, hlk, hnm, htab, hfr, hlo⟩ := hF
  simp only [q_stepI, q_nx] at hs
  split at hs
  · split at hs
    · rename_i hlen
      subst hlen
      cases hs
      exact lv_fcmp hx hb hd (kk H locs L hH hS hL)
    · cases hs
  · cases hs
theorem q_n_dcmp {op : CmpOp} (hF : q_Fx p s m args meth c R M) (hG : q_G E D cid s0) (hY : q_Y s0 s) {len : Nat} (hd : decode M.2.1 pc = .ok (.dcmp op, len)) (hs : q_stepI E M (.dcmp op) len pc ls st h = some (.inl f)) (hbd : c0 ≤ h.2.2.1 ∧ n0 ≤ h.2.2.2 ∧ f.2.2.2.2.2.1 - c0 ≤ R.cells ∧ f.2.2.2.2.2.2 - n0 ≤ R.slots) (hH : q_hp D cid s0.heap.size h H) (hS : va_S (q_A s0) s.heap H locs) (hL : q_L L M.2.2.1 ls) (kk : ∀ (H1 : Heap) (locs1 : List Loc) (L1 : Array Slot), q_hp D cid s0.heap.size f.2.2.2 H1 → va_S (q_A s0) s.heap H1 locs1 → q_L L1 M.2.2.1 f.2.1 → W p l e R s m args below meth c H1 locs1 (f.2.2.2.2.2.1 - c0) (f.2.2.2.2.2.2 - n0) Q (F0 m f.1 L1 f.2.2.1)) : W p l e R s m args below meth c H locs (h.2.2.1 - c0) (h.2.2.2 - n0) Q (F0 m pc L st) := by
  obtain ⟨hx, hb, hr, hml, hown, hts, hlk, hnm, htab, hfr, hlo⟩ := hF
  simp only [q_stepI, q_nx] at hs
  split at hs
  · split at hs
    · rename_i hlen
      subst hlen
      cases hs
      exact lv_dcmp hx hb hd (kk H locs L hH hS hL)
    · cases hs
  · cases hs
theorem q_n_fconst {n : Fin 3} (hF : q_Fx p s m args meth c R M) (hG : q_G E D cid s0) (hY : q_Y s0 s) {len : Nat} (hd : decode M.2.1 pc = .ok (.fconst n, len)) (hs : q_stepI E M (.fconst n) len pc ls st h = some (.inl f)) (hbd : c0 ≤ h.2.2.1 ∧ n0 ≤ h.2.2.2 ∧ f.2.2.2.2.2.1 - c0 ≤ R.cells ∧ f.2.2.2.2.2.2 - n0 ≤ R.slots) (hH : q_hp D cid s0.heap.size h H) (hS : va_S (q_A s0) s.heap H locs) (hL : q_L L M.2.2.1 ls) (kk : ∀ (H1 : Heap) (locs1 : List Loc) (L1 : Array Slot), q_hp D cid s0.heap.size f.2.2.2 H1 → va_S (q_A s0) s.heap H1 locs1 → q_L L1 M.2.2.1 f.2.1 → W p l e R s m args below meth c H1 locs1 (f.2.2.2.2.2.1 - c0) (f.2.2.2.2.2.2 - n0) Q (F0 m f.1 L1 f.2.2.1)) : W p l e R s m args below meth c H locs (h.2.2.1 - c0) (h.2.2.2 - n0) Q (F0 m pc L st) := by
  obtain ⟨hx, hb, hr, hml, hown, hts, hlk, hnm, htab, hfr, hlo⟩ := hF
  simp only [q_stepI, q_nx] at hs
  split at hs
  · rename_i hlen
    obtain ⟨hlen, hz⟩ := hlen
    subst hlen
    have hn : n = 0 := Fin.ext hz
    subst hn
    cases hs
    exact lv_fconst0 hx hb hd (kk H locs L hH hS hL)
  · cases hs
theorem q_n_dconst {n : Fin 2} (hF : q_Fx p s m args meth c R M) (hG : q_G E D cid s0) (hY : q_Y s0 s) {len : Nat} (hd : decode M.2.1 pc = .ok (.dconst n, len)) (hs : q_stepI E M (.dconst n) len pc ls st h = some (.inl f)) (hbd : c0 ≤ h.2.2.1 ∧ n0 ≤ h.2.2.2 ∧ f.2.2.2.2.2.1 - c0 ≤ R.cells ∧ f.2.2.2.2.2.2 - n0 ≤ R.slots) (hH : q_hp D cid s0.heap.size h H) (hS : va_S (q_A s0) s.heap H locs) (hL : q_L L M.2.2.1 ls) (kk : ∀ (H1 : Heap) (locs1 : List Loc) (L1 : Array Slot), q_hp D cid s0.heap.size f.2.2.2 H1 → va_S (q_A s0) s.heap H1 locs1 → q_L L1 M.2.2.1 f.2.1 → W p l e R s m args below meth c H1 locs1 (f.2.2.2.2.2.1 - c0) (f.2.2.2.2.2.2 - n0) Q (F0 m f.1 L1 f.2.2.1)) : W p l e R s m args below meth c H locs (h.2.2.1 - c0) (h.2.2.2 - n0) Q (F0 m pc L st) := by
  obtain ⟨hx, hb, hr, hml, hown, hts, hlk, hnm, htab, hfr, hlo⟩ := hF
  simp only [q_stepI, q_nx] at hs
  split at hs
  · rename_i hlen
    obtain ⟨hlen, hz⟩ := hlen
    subst hlen
    have hn : n = 0 := Fin.ext hz
    subst hn
    cases hs
    exact lv_dconst0 hx hb hd (kk H locs L hH hS hL)
  · cases hs
theorem q_n_ldc {ix : Nat} (hF : q_Fx p s m args meth c R M) (hG : q_G E D cid s0) (hY : q_Y s0 s) {len : Nat} (hd : decode M.2.1 pc = .ok (.ldc ix, len)) (hs : q_stepI E M (.ldc ix) len pc ls st h = some (.inl f)) (hbd : c0 ≤ h.2.2.1 ∧ n0 ≤ h.2.2.2 ∧ f.2.2.2.2.2.1 - c0 ≤ R.cells ∧ f.2.2.2.2.2.2 - n0 ≤ R.slots) (hH : q_hp D cid s0.heap.size h H) (hS : va_S (q_A s0) s.heap H locs) (hL : q_L L M.2.2.1 ls) (kk : ∀ (H1 : Heap) (locs1 : List Loc) (L1 : Array Slot), q_hp D cid s0.heap.size f.2.2.2 H1 → va_S (q_A s0) s.heap H1 locs1 → q_L L1 M.2.2.1 f.2.1 → W p l e R s m args below meth c H1 locs1 (f.2.2.2.2.2.1 - c0) (f.2.2.2.2.2.2 - n0) Q (F0 m f.1 L1 f.2.2.1)) : W p l e R s m args below meth c H locs (h.2.2.1 - c0) (h.2.2.2 - n0) Q (F0 m pc L st) := by
  obtain ⟨hx, hb, hr, hml, hown, hts, hlk, hnm, htab, hfr, hlo⟩ := hF
  simp only [q_stepI, q_nx] at hs
  split at hs
  · rename_i i pos hq
    split at hs
    · rename_i v hv
      split at hs
      · rename_i hlen
        obtain ⟨hlen, ho⟩ := hlen
        subst hlen
        cases hs
        obtain ⟨w0, w1, w2, w3⟩ := q_lst_ok _ ho _ (q_lk_mem hq)
        dsimp only at w1 w2 w3
        obtain ⟨adK, adV, h1, h2⟩ := q_Sat hG hY
        obtain ⟨g1, g2, g3⟩ := h1 i w1
        rw [g1] at hv
        cases hv
        rw [w0] at hown
        subst w2
        exact va_ldcS hx hb hown g3 hd (kk H locs L hH hS hL)
      · cases hs
    · cases hs
  · split at hs
    · rename_i x pos hq
      split at hs
      · rename_i hlen
        obtain ⟨hlen, ho⟩ := hlen
        subst hlen
        cases hs
        exact lv_ldc hx hb hown (q_word hts (q_ldi_ok _ ho _ (q_lk_mem hq)) rfl) hd (kk H locs L hH hS hL)
      · cases hs
    · cases hs
theorem q_n_ldc_w {ix : Nat} (hF : q_Fx p s m args meth c R M) (hG : q_G E D cid s0) (hY : q_Y s0 s) {len : Nat} (hd : decode M.2.1 pc = .ok (.ldc_w ix, len)) (hs : q_stepI E M (.ldc_w ix) len pc ls st h = some (.inl f)) (hbd : c0 ≤ h.2.2.1 ∧ n0 ≤ h.2.2.2 ∧ f.2.2.2.2.2.1 - c0 ≤ R.cells ∧ f.2.2.2.2.2.2 - n0 ≤ R.slots) (hH : q_hp D cid s0.heap.size h H) (hS : va_S (q_A s0) s.heap H locs) (hL : q_L L M.2.2.1 ls) (kk : ∀ (H1 : Heap) (locs1 : List Loc) (L1 : Array Slot), q_hp D cid s0.heap.size f.2.2.2 H1 → va_S (q_A s0) s.heap H1 locs1 → q_L L1 M.2.2.1 f.2.1 → W p l e R s m args below meth c H1 locs1 (f.2.2.2.2.2.1 - c0) (f.2.2.2.2.2.2 - n0) Q (F0 m f.1 L1 f.2.2.1)) : W p l e R s m args below meth c H locs (h.2.2.1 - c0) (h.2.2.2 - n0) Q (F0 m pc L st) := by
  obtain ⟨hx, hb, hr, hml, hown, hts, hlk, hnm, htab, hfr, hlo⟩ := hF
  simp only [q_stepI, q_nx] at hs
  split at hs
  · rename_i i pos hq
    split at hs
    · rename_i v hv
      split at hs
      · rename_i hlen
        obtain ⟨hlen, ho⟩ := hlen
        subst hlen
        cases hs
        obtain ⟨w0, w1, w2, w3⟩ := q_lst_ok _ ho _ (q_lk_mem hq)
        dsimp only at w1 w2 w3
        obtain ⟨adK, adV, h1, h2⟩ := q_Sat hG hY
        obtain ⟨g1, g2, g3⟩ := h1 i w1
        rw [g1] at hv
        cases hv
        rw [w0] at hown
        subst w2
        exact va_ldcSW hx hb hown g3 hd (kk H locs L hH hS hL)
      · cases hs
    · cases hs
  · cases hs
theorem q_n_aconst_null (hF : q_Fx p s m args meth c R M) (hG : q_G E D cid s0) (hY : q_Y s0 s) {len : Nat} (hd : decode M.2.1 pc = .ok (.aconst_null, len)) (hs : q_stepI E M (.aconst_null) len pc ls st h = some (.inl f)) (hbd : c0 ≤ h.2.2.1 ∧ n0 ≤ h.2.2.2 ∧ f.2.2.2.2.2.1 - c0 ≤ R.cells ∧ f.2.2.2.2.2.2 - n0 ≤ R.slots) (hH : q_hp D cid s0.heap.size h H) (hS : va_S (q_A s0) s.heap H locs) (hL : q_L L M.2.2.1 ls) (kk : ∀ (H1 : Heap) (locs1 : List Loc) (L1 : Array Slot), q_hp D cid s0.heap.size f.2.2.2 H1 → va_S (q_A s0) s.heap H1 locs1 → q_L L1 M.2.2.1 f.2.1 → W p l e R s m args below meth c H1 locs1 (f.2.2.2.2.2.1 - c0) (f.2.2.2.2.2.2 - n0) Q (F0 m f.1 L1 f.2.2.1)) : W p l e R s m args below meth c H locs (h.2.2.1 - c0) (h.2.2.2 - n0) Q (F0 m pc L st) := by
  obtain ⟨hx, hb, hr, hml, hown, hts, hlk, hnm, htab, hfr, hlo⟩ := hF
  simp only [q_stepI, q_nx] at hs
  split at hs
  · rename_i hlen
    subst hlen
    cases hs
    exact lv_null hx hb hd (kk H locs L hH hS hL)
  · cases hs
theorem q_n_iushr (hF : q_Fx p s m args meth c R M) (hG : q_G E D cid s0) (hY : q_Y s0 s) {len : Nat} (hd : decode M.2.1 pc = .ok (.iushr, len)) (hs : q_stepI E M (.iushr) len pc ls st h = some (.inl f)) (hbd : c0 ≤ h.2.2.1 ∧ n0 ≤ h.2.2.2 ∧ f.2.2.2.2.2.1 - c0 ≤ R.cells ∧ f.2.2.2.2.2.2 - n0 ≤ R.slots) (hH : q_hp D cid s0.heap.size h H) (hS : va_S (q_A s0) s.heap H locs) (hL : q_L L M.2.2.1 ls) (kk : ∀ (H1 : Heap) (locs1 : List Loc) (L1 : Array Slot), q_hp D cid s0.heap.size f.2.2.2 H1 → va_S (q_A s0) s.heap H1 locs1 → q_L L1 M.2.2.1 f.2.1 → W p l e R s m args below meth c H1 locs1 (f.2.2.2.2.2.1 - c0) (f.2.2.2.2.2.2 - n0) Q (F0 m f.1 L1 f.2.2.1)) : W p l e R s m args below meth c H locs (h.2.2.1 - c0) (h.2.2.2 - n0) Q (F0 m pc L st) := by
  obtain ⟨hx, hb, hr, hml, hown, hts, hlk, hnm, htab, hfr, hlo⟩ := hF
  simp only [q_stepI, q_nx] at hs
  split at hs
  · split at hs
    · rename_i hlen
      subst hlen
      cases hs
      exact lv_iushr hx hb hd rfl (kk H locs L hH hS hL)
    · cases hs
  · cases hs
theorem q_n_ineg (hF : q_Fx p s m args meth c R M) (hG : q_G E D cid s0) (hY : q_Y s0 s) {len : Nat} (hd : decode M.2.1 pc = .ok (.ineg, len)) (hs : q_stepI E M (.ineg) len pc ls st h = some (.inl f)) (hbd : c0 ≤ h.2.2.1 ∧ n0 ≤ h.2.2.2 ∧ f.2.2.2.2.2.1 - c0 ≤ R.cells ∧ f.2.2.2.2.2.2 - n0 ≤ R.slots) (hH : q_hp D cid s0.heap.size h H) (hS : va_S (q_A s0) s.heap H locs) (hL : q_L L M.2.2.1 ls) (kk : ∀ (H1 : Heap) (locs1 : List Loc) (L1 : Array Slot), q_hp D cid s0.heap.size f.2.2.2 H1 → va_S (q_A s0) s.heap H1 locs1 → q_L L1 M.2.2.1 f.2.1 → W p l e R s m args below meth c H1 locs1 (f.2.2.2.2.2.1 - c0) (f.2.2.2.2.2.2 - n0) Q (F0 m f.1 L1 f.2.2.1)) : W p l e R s m args below meth c H locs (h.2.2.1 - c0) (h.2.2.2 - n0) Q (F0 m pc L st) := by
  obtain ⟨hx, hb, hr, hml, hown, hts, hlk, hnm, htab, hfr, hlo⟩ := hF
  simp only [q_stepI, q_nx] at hs
  split at hs
  · split at hs
    · rename_i hlen
      subst hlen
      cases hs
      exact lv_ineg hx hb hd (kk H locs L hH hS hL)
    · cases hs
  · cases hs
theorem q_n_lmul (hF : q_Fx p s m args meth c R M) (hG : q_G E D cid s0) (hY : q_Y s0 s) {len : Nat} (hd : decode M.2.1 pc = .ok (.lmul, len)) (hs : q_stepI E M (.lmul) len pc ls st h = some (.inl f)) (hbd : c0 ≤ h.2.2.1 ∧ n0 ≤ h.2.2.2 ∧ f.2.2.2.2.2.1 - c0 ≤ R.cells ∧ f.2.2.2.2.2.2 - n0 ≤ R.slots) (hH : q_hp D cid s0.heap.size h H) (hS : va_S (q_A s0) s.heap H locs) (hL : q_L L M.2.2.1 ls) (kk : ∀ (H1 : Heap) (locs1 : List Loc) (L1 : Array Slot), q_hp D cid s0.heap.size f.2.2.2 H1 → va_S (q_A s0) s.heap H1 locs1 → q_L L1 M.2.2.1 f.2.1 → W p l e R s m args below meth c H1 locs1 (f.2.2.2.2.2.1 - c0) (f.2.2.2.2.2.2 - n0) Q (F0 m f.1 L1 f.2.2.1)) : W p l e R s m args below meth c H locs (h.2.2.1 - c0) (h.2.2.2 - n0) Q (F0 m pc L st) := by
  obtain ⟨hx, hb, hr, hml, hown, hts, hlk, hnm, htab, hfr, hlo⟩ := hF
  simp only [q_stepI, q_nx] at hs
  split at hs
  · split at hs
    · rename_i hlen
      subst hlen
      cases hs
      exact lv_lmul hx hb hd (kk H locs L hH hS hL)
    · cases hs
  · cases hs
theorem q_n_ladd (hF : q_Fx p s m args meth c R M) (hG : q_G E D cid s0) (hY : q_Y s0 s) {len : Nat} (hd : decode M.2.1 pc = .ok (.ladd, len)) (hs : q_stepI E M (.ladd) len pc ls st h = some (.inl f)) (hbd : c0 ≤ h.2.2.1 ∧ n0 ≤ h.2.2.2 ∧ f.2.2.2.2.2.1 - c0 ≤ R.cells ∧ f.2.2.2.2.2.2 - n0 ≤ R.slots) (hH : q_hp D cid s0.heap.size h H) (hS : va_S (q_A s0) s.heap H locs) (hL : q_L L M.2.2.1 ls) (kk : ∀ (H1 : Heap) (locs1 : List Loc) (L1 : Array Slot), q_hp D cid s0.heap.size f.2.2.2 H1 → va_S (q_A s0) s.heap H1 locs1 → q_L L1 M.2.2.1 f.2.1 → W p l e R s m args below meth c H1 locs1 (f.2.2.2.2.2.1 - c0) (f.2.2.2.2.2.2 - n0) Q (F0 m f.1 L1 f.2.2.1)) : W p l e R s m args below meth c H locs (h.2.2.1 - c0) (h.2.2.2 - n0) Q (F0 m pc L st) := by
  obtain ⟨hx, hb, hr, hml, hown, hts, hlk, hnm, htab, hfr, hlo⟩ := hF
  simp only [q_stepI, q_nx] at hs
  split at hs
  · split at hs
    · rename_i hlen
      subst hlen
      cases hs
      exact lv_ladd hx hb hd (kk H locs L hH hS hL)
    · cases hs
  · cases hs
theorem q_n_lcmp (hF : q_Fx p s m args meth c R M) (hG : q_G E D cid s0) (hY : q_Y s0 s) {len : Nat} (hd : decode M.2.1 pc = .ok (.lcmp, len)) (hs : q_stepI E M (.lcmp) len pc ls st h = some (.inl f)) (hbd : c0 ≤ h.2.2.1 ∧ n0 ≤ h.2.2.2 ∧ f.2.2.2.2.2.1 - c0 ≤ R.cells ∧ f.2.2.2.2.2.2 - n0 ≤ R.slots) (hH : q_hp D cid s0.heap.size h H) (hS : va_S (q_A s0) s.heap H locs) (hL : q_L L M.2.2.1 ls) (kk : ∀ (H1 : Heap) (locs1 : List Loc) (L1 : Array Slot), q_hp D cid s0.heap.size f.2.2.2 H1 → va_S (q_A s0) s.heap H1 locs1 → q_L L1 M.2.2.1 f.2.1 → W p l e R s m args below meth c H1 locs1 (f.2.2.2.2.2.1 - c0) (f.2.2.2.2.2.2 - n0) Q (F0 m f.1 L1 f.2.2.1)) : W p l e R s m args below meth c H locs (h.2.2.1 - c0) (h.2.2.2 - n0) Q (F0 m pc L st) := by
  obtain ⟨hx, hb, hr, hml, hown, hts, hlk, hnm, htab, hfr, hlo⟩ := hF
  simp only [q_stepI, q_nx] at hs
  split at hs
  · split at hs
    · rename_i hlen
      subst hlen
      cases hs
      exact W.lcmp hx hb hd (kk H locs L hH hS hL)
    · cases hs
  · cases hs
theorem q_n_idiv (hF : q_Fx p s m args meth c R M) (hG : q_G E D cid s0) (hY : q_Y s0 s) {len : Nat} (hd : decode M.2.1 pc = .ok (.idiv, len)) (hs : q_stepI E M (.idiv) len pc ls st h = some (.inl f)) (hbd : c0 ≤ h.2.2.1 ∧ n0 ≤ h.2.2.2 ∧ f.2.2.2.2.2.1 - c0 ≤ R.cells ∧ f.2.2.2.2.2.2 - n0 ≤ R.slots) (hH : q_hp D cid s0.heap.size h H) (hS : va_S (q_A s0) s.heap H locs) (hL : q_L L M.2.2.1 ls) (kk : ∀ (H1 : Heap) (locs1 : List Loc) (L1 : Array Slot), q_hp D cid s0.heap.size f.2.2.2 H1 → va_S (q_A s0) s.heap H1 locs1 → q_L L1 M.2.2.1 f.2.1 → W p l e R s m args below meth c H1 locs1 (f.2.2.2.2.2.1 - c0) (f.2.2.2.2.2.2 - n0) Q (F0 m f.1 L1 f.2.2.1)) : W p l e R s m args below meth c H locs (h.2.2.1 - c0) (h.2.2.2 - n0) Q (F0 m pc L st) := by
  obtain ⟨hx, hb, hr, hml, hown, hts, hlk, hnm, htab, hfr, hlo⟩ := hF
  simp only [q_stepI, q_nx] at hs
  split at hs
  · split at hs
    · rename_i hlen
      obtain ⟨hlen, hne⟩ := hlen
      subst hlen
      cases hs
      exact lv_idiv hx hb hd hne (kk H locs L hH hS hL)
    · cases hs
  · cases hs
theorem q_n_irem (hF : q_Fx p s m args meth c R M) (hG : q_G E D cid s0) (hY : q_Y s0 s) {len : Nat} (hd : decode M.2.1 pc = .ok (.irem, len)) (hs : q_stepI E M (.irem) len pc ls st h = some (.inl f)) (hbd : c0 ≤ h.2.2.1 ∧ n0 ≤ h.2.2.2 ∧ f.2.2.2.2.2.1 - c0 ≤ R.cells ∧ f.2.2.2.2.2.2 - n0 ≤ R.slots) (hH : q_hp D cid s0.heap.size h H) (hS : va_S (q_A s0) s.heap H locs) (hL : q_L L M.2.2.1 ls) (kk : ∀ (H1 : Heap) (locs1 : List Loc) (L1 : Array Slot), q_hp D cid s0.heap.size f.2.2.2 H1 → va_S (q_A s0) s.heap H1 locs1 → q_L L1 M.2.2.1 f.2.1 → W p l e R s m args below meth c H1 locs1 (f.2.2.2.2.2.1 - c0) (f.2.2.2.2.2.2 - n0) Q (F0 m f.1 L1 f.2.2.1)) : W p l e R s m args below meth c H locs (h.2.2.1 - c0) (h.2.2.2 - n0) Q (F0 m pc L st) := by
  obtain ⟨hx, hb, hr, hml, hown, hts, hlk, hnm, htab, hfr, hlo⟩ := hF
  simp only [q_stepI, q_nx] at hs
  split at hs
  · split at hs
    · rename_i hlen
      obtain ⟨hlen, hne⟩ := hlen
      subst hlen
      cases hs
      exact lv_irem hx hb hd hne (kk H locs L hH hS hL)
    · cases hs
  · cases hs
theorem q_n_dup (hF : q_Fx p s m args meth c R M) (hG : q_G E D cid s0) (hY : q_Y s0 s) {len : Nat} (hd : decode M.2.1 pc = .ok (.dup, len)) (hs : q_stepI E M (.dup) len pc ls st h = some (.inl f)) (hbd : c0 ≤ h.2.2.1 ∧ n0 ≤ h.2.2.2 ∧ f.2.2.2.2.2.1 - c0 ≤ R.cells ∧ f.2.2.2.2.2.2 - n0 ≤ R.slots) (hH : q_hp D cid s0.heap.size h H) (hS : va_S (q_A s0) s.heap H locs) (hL : q_L L M.2.2.1 ls) (kk : ∀ (H1 : Heap) (locs1 : List Loc) (L1 : Array Slot), q_hp D cid s0.heap.size f.2.2.2 H1 → va_S (q_A s0) s.heap H1 locs1 → q_L L1 M.2.2.1 f.2.1 → W p l e R s m args below meth c H1 locs1 (f.2.2.2.2.2.1 - c0) (f.2.2.2.2.2.2 - n0) Q (F0 m f.1 L1 f.2.2.1)) : W p l e R s m args below meth c H locs (h.2.2.1 - c0) (h.2.2.2 - n0) Q (F0 m pc L st) := by
  obtain ⟨hx, hb, hr, hml, hown, hts, hlk, hnm, htab, hfr, hlo⟩ := hF
  simp only [q_stepI, q_nx] at hs
  split at hs
  · split at hs
    · rename_i hlen
      obtain ⟨hlen, hc⟩ := hlen
      subst hlen
      cases hs
      exact lv_dup hx hb hd hc (kk H locs L hH hS hL)
    · cases hs
  · cases hs
theorem q_n_dup2 (hF : q_Fx p s m args meth c R M) (hG : q_G E D cid s0) (hY : q_Y s0 s) {len : Nat} (hd : decode M.2.1 pc = .ok (.dup2, len)) (hs : q_stepI E M (.dup2) len pc ls st h = some (.inl f)) (hbd : c0 ≤ h.2.2.1 ∧ n0 ≤ h.2.2.2 ∧ f.2.2.2.2.2.1 - c0 ≤ R.cells ∧ f.2.2.2.2.2.2 - n0 ≤ R.slots) (hH : q_hp D cid s0.heap.size h H) (hS : va_S (q_A s0) s.heap H locs) (hL : q_L L M.2.2.1 ls) (kk : ∀ (H1 : Heap) (locs1 : List Loc) (L1 : Array Slot), q_hp D cid s0.heap.size f.2.2.2 H1 → va_S (q_A s0) s.heap H1 locs1 → q_L L1 M.2.2.1 f.2.1 → W p l e R s m args below meth c H1 locs1 (f.2.2.2.2.2.1 - c0) (f.2.2.2.2.2.2 - n0) Q (F0 m f.1 L1 f.2.2.1)) : W p l e R s m args below meth c H locs (h.2.2.1 - c0) (h.2.2.2 - n0) Q (F0 m pc L st) := by
  obtain ⟨hx, hb, hr, hml, hown, hts, hlk, hnm, htab, hfr, hlo⟩ := hF
  simp only [q_stepI, q_nx] at hs
  split at hs
  · split at hs
    · rename_i hlen
      obtain ⟨hlen, hc⟩ := hlen
      subst hlen
      cases hs
      exact lv_dup2_11 hx hb hd hc.1 hc.2 (kk H locs L hH hS hL)
    · cases hs
  · cases hs
theorem q_n_pop (hF : q_Fx p s m args meth c R M) (hG : q_G E D cid s0) (hY : q_Y s0 s) {len : Nat} (hd : decode M.2.1 pc = .ok (.pop, len)) (hs : q_stepI E M (.pop) len pc ls st h = some (.inl f)) (hbd : c0 ≤ h.2.2.1 ∧ n0 ≤ h.2.2.2 ∧ f.2.2.2.2.2.1 - c0 ≤ R.cells ∧ f.2.2.2.2.2.2 - n0 ≤ R.slots) (hH : q_hp D cid s0.heap.size h H) (hS : va_S (q_A s0) s.heap H locs) (hL : q_L L M.2.2.1 ls) (kk : ∀ (H1 : Heap) (locs1 : List Loc) (L1 : Array Slot), q_hp D cid s0.heap.size f.2.2.2 H1 → va_S (q_A s0) s.heap H1 locs1 → q_L L1 M.2.2.1 f.2.1 → W p l e R s m args below meth c H1 locs1 (f.2.2.2.2.2.1 - c0) (f.2.2.2.2.2.2 - n0) Q (F0 m f.1 L1 f.2.2.1)) : W p l e R s m args below meth c H locs (h.2.2.1 - c0) (h.2.2.2 - n0) Q (F0 m pc L st) := by
  obtain ⟨hx, hb, hr, hml, hown, hts, hlk, hnm, htab, hfr, hlo⟩ := hF
  simp only [q_stepI, q_nx] at hs
  split at hs
  · split at hs
    · rename_i hlen
      obtain ⟨hlen, hc⟩ := hlen
      subst hlen
      cases hs
      exact lv_pop hx hb hd hc (kk H locs L hH hS hL)
    · cases hs
  · cases hs
theorem q_n_fload {k : Nat} (hF : q_Fx p s m args meth c R M) (hG : q_G E D cid s0) (hY : q_Y s0 s) {len : Nat} (hd : decode M.2.1 pc = .ok (.fload k, len)) (hs : q_stepI E M (.fload k) len pc ls st h = some (.inl f)) (hbd : c0 ≤ h.2.2.1 ∧ n0 ≤ h.2.2.2 ∧ f.2.2.2.2.2.1 - c0 ≤ R.cells ∧ f.2.2.2.2.2.2 - n0 ≤ R.slots) (hH : q_hp D cid s0.heap.size h H) (hS : va_S (q_A s0) s.heap H locs) (hL : q_L L M.2.2.1 ls) (kk : ∀ (H1 : Heap) (locs1 : List Loc) (L1 : Array Slot), q_hp D cid s0.heap.size f.2.2.2 H1 → va_S (q_A s0) s.heap H1 locs1 → q_L L1 M.2.2.1 f.2.1 → W p l e R s m args below meth c H1 locs1 (f.2.2.2.2.2.1 - c0) (f.2.2.2.2.2.2 - n0) Q (F0 m f.1 L1 f.2.2.1)) : W p l e R s m args below meth c H locs (h.2.2.1 - c0) (h.2.2.2 - n0) Q (F0 m pc L st) := by
  obtain ⟨hx, hb, hr, hml, hown, hts, hlk, hnm, htab, hfr, hlo⟩ := hF
  simp only [q_stepI, q_nx] at hs
  split at hs
  · rename_i x hk
    split at hs
    · rename_i hlen
      subst hlen
      cases hs
      exact lv_fload hx hb hd (hL.at hk (fun z => by cases z)) (kk H locs L hH hS hL)
    · cases hs
  · cases hs
theorem q_n_dload {k : Nat} (hF : q_Fx p s m args meth c R M) (hG : q_G E D cid s0) (hY : q_Y s0 s) {len : Nat} (hd : decode M.2.1 pc = .ok (.dload k, len)) (hs : q_stepI E M (.dload k) len pc ls st h = some (.inl f)) (hbd : c0 ≤ h.2.2.1 ∧ n0 ≤ h.2.2.2 ∧ f.2.2.2.2.2.1 - c0 ≤ R.cells ∧ f.2.2.2.2.2.2 - n0 ≤ R.slots) (hH : q_hp D cid s0.heap.size h H) (hS : va_S (q_A s0) s.heap H locs) (hL : q_L L M.2.2.1 ls) (kk : ∀ (H1 : Heap) (locs1 : List Loc) (L1 : Array Slot), q_hp D cid s0.heap.size f.2.2.2 H1 → va_S (q_A s0) s.heap H1 locs1 → q_L L1 M.2.2.1 f.2.1 → W p l e R s m args below meth c H1 locs1 (f.2.2.2.2.2.1 - c0) (f.2.2.2.2.2.2 - n0) Q (F0 m f.1 L1 f.2.2.1)) : W p l e R s m args below meth c H locs (h.2.2.1 - c0) (h.2.2.2 - n0) Q (F0 m pc L st) := by
  obtain ⟨hx, hb, hr, hml, hown, hts, hlk, hnm, htab, hfr, hlo⟩ := hF
  simp only [q_stepI, q_nx] at hs
  split at hs
  · rename_i x hk
    split at hs
    · rename_i hlen
      subst hlen
      cases hs
      exact lv_dload hx hb hd (hL.at hk (fun z => by cases z)) (kk H locs L hH hS hL)
    · cases hs
  · cases hs
theorem q_n_iload_n {k : Fin 4} (hF : q_Fx p s m args meth c R M) (hG : q_G E D cid s0) (hY : q_Y s0 s) {len : Nat} (hd : decode M.2.1 pc = .ok (.iload_n k, len)) (hs : q_stepI E M (.iload_n k) len pc ls st h = some (.inl f)) (hbd : c0 ≤ h.2.2.1 ∧ n0 ≤ h.2.2.2 ∧ f.2.2.2.2.2.1 - c0 ≤ R.cells ∧ f.2.2.2.2.2.2 - n0 ≤ R.slots) (hH : q_hp D cid s0.heap.size h H) (hS : va_S (q_A s0) s.heap H locs) (hL : q_L L M.2.2.1 ls) (kk : ∀ (H1 : Heap) (locs1 : List Loc) (L1 : Array Slot), q_hp D cid s0.heap.size f.2.2.2 H1 → va_S (q_A s0) s.heap H1 locs1 → q_L L1 M.2.2.1 f.2.1 → W p l e R s m args below meth c H1 locs1 (f.2.2.2.2.2.1 - c0) (f.2.2.2.2.2.2 - n0) Q (F0 m f.1 L1 f.2.2.1)) : W p l e R s m args below meth c H locs (h.2.2.1 - c0) (h.2.2.2 - n0) Q (F0 m pc L st) := by
  obtain ⟨hx, hb, hr, hml, hown, hts, hlk, hnm, htab, hfr, hlo⟩ := hF
  simp only [q_stepI, q_nx] at hs
  split at hs
  · rename_i x hk
    split at hs
    · rename_i hlen
      subst hlen
      cases hs
      exact lv_iload_n hx hb hd rfl (hL.at hk (fun z => by cases z)) (kk H locs L hH hS hL)
    · cases hs
  · cases hs
theorem q_n_iload {k : Nat} (hF : q_Fx p s m args meth c R M) (hG : q_G E D cid s0) (hY : q_Y s0 s) {len : Nat} (hd : decode M.2.1 pc = .ok (.iload k, len)) (hs : q_stepI E M (.iload k) len pc ls st h = some (.inl f)) (hbd : c0 ≤ h.2.2.1 ∧ n0 ≤ h.2.2.2 ∧ f.2.2.2.2.2.1 - c0 ≤ R.cells ∧ f.2.2.2.2.2.2 - n0 ≤ R.slots) (hH : q_hp D cid s0.heap.size h H) (hS : va_S (q_A s0) s.heap H locs) (hL : q_L L M.2.2.1 ls) (kk : ∀ (H1 : Heap) (locs1 : List Loc) (L1 : Array Slot), q_hp D cid s0.heap.size f.2.2.2 H1 → va_S (q_A s0) s.heap H1 locs1 → q_L L1 M.2.2.1 f.2.1 → W p l e R s m args below meth c H1 locs1 (f.2.2.2.2.2.1 - c0) (f.2.2.2.2.2.2 - n0) Q (F0 m f.1 L1 f.2.2.1)) : W p l e R s m args below meth c H locs (h.2.2.1 - c0) (h.2.2.2 - n0) Q (F0 m pc L st) := by
  obtain ⟨hx, hb, hr, hml, hown, hts, hlk, hnm, htab, hfr, hlo⟩ := hF
  simp only [q_stepI, q_nx] at hs
  split at hs
  · rename_i x hk
    split at hs
    · rename_i hlen
      subst hlen
      cases hs
      exact lv_iload hx hb hd (hL.at hk (fun z => by cases z)) (kk H locs L hH hS hL)
    · cases hs
  · cases hs
theorem q_n_lload_n {k : Fin 4} (hF : q_Fx p s m args meth c R M) (hG : q_G E D cid s0) (hY : q_Y s0 s) {len : Nat} (hd : decode M.2.1 pc = .ok (.lload_n k, len)) (hs : q_stepI E M (.lload_n k) len pc ls st h = some (.inl f)) (hbd : c0 ≤ h.2.2.1 ∧ n0 ≤ h.2.2.2 ∧ f.2.2.2.2.2.1 - c0 ≤ R.cells ∧ f.2.2.2.2.2.2 - n0 ≤ R.slots) (hH : q_hp D cid s0.heap.size h H) (hS : va_S (q_A s0) s.heap H locs) (hL : q_L L M.2.2.1 ls) (kk : ∀ (H1 : Heap) (locs1 : List Loc) (L1 : Array Slot), q_hp D cid s0.heap.size f.2.2.2 H1 → va_S (q_A s0) s.heap H1 locs1 → q_L L1 M.2.2.1 f.2.1 → W p l e R s m args below meth c H1 locs1 (f.2.2.2.2.2.1 - c0) (f.2.2.2.2.2.2 - n0) Q (F0 m f.1 L1 f.2.2.1)) : W p l e R s m args below meth c H locs (h.2.2.1 - c0) (h.2.2.2 - n0) Q (F0 m pc L st) := by
  obtain ⟨hx, hb, hr, hml, hown, hts, hlk, hnm, htab, hfr, hlo⟩ := hF
  simp only [q_stepI, q_nx] at hs
  split at hs
  · rename_i x hk
    split at hs
    · rename_i hlen
      subst hlen
      cases hs
      exact lv_lload_n hx hb hd rfl (hL.at hk (fun z => by cases z)) (kk H locs L hH hS hL)
    · cases hs
  · cases hs
theorem q_n_lload {k : Nat} (hF : q_Fx p s m args meth c R M) (hG : q_G E D cid s0) (hY : q_Y s0 s) {len : Nat} (hd : decode M.2.1 pc = .ok (.lload k, len)) (hs : q_stepI E M (.lload k) len pc ls st h = some (.inl f)) (hbd : c0 ≤ h.2.2.1 ∧ n0 ≤ h.2.2.2 ∧ f.2.2.2.2.2.1 - c0 ≤ R.cells ∧ f.2.2.2.2.2.2 - n0 ≤ R.slots) (hH : q_hp D cid s0.heap.size h H) (hS : va_S (q_A s0) s.heap H locs) (hL : q_L L M.2.2.1 ls) (kk : ∀ (H1 : Heap) (locs1 : List Loc) (L1 : Array Slot), q_hp D cid s0.heap.size f.2.2.2 H1 → va_S (q_A s0) s.heap H1 locs1 → q_L L1 M.2.2.1 f.2.1 → W p l e R s m args below meth c H1 locs1 (f.2.2.2.2.2.1 - c0) (f.2.2.2.2.2.2 - n0) Q (F0 m f.1 L1 f.2.2.1)) : W p l e R s m args below meth c H locs (h.2.2.1 - c0) (h.2.2.2 - n0) Q (F0 m pc L st) := by
  obtain ⟨hx, hb, hr, hml, hown, hts, hlk, hnm, htab, hfr, hlo⟩ := hF
  simp only [q_stepI, q_nx] at hs
  split at hs
  · rename_i x hk
    split at hs
    · rename_i hlen
      subst hlen
      cases hs
      exact lv_lload hx hb hd (hL.at hk (fun z => by cases z)) (kk H locs L hH hS hL)
    · cases hs
  · cases hs
theorem q_n_aload_n {k : Fin 4} (hF : q_Fx p s m args meth c R M) (hG : q_G E D cid s0) (hY : q_Y s0 s) {len : Nat} (hd : decode M.2.1 pc = .ok (.aload_n k, len)) (hs : q_stepI E M (.aload_n k) len pc ls st h = some (.inl f)) (hbd : c0 ≤ h.2.2.1 ∧ n0 ≤ h.2.2.2 ∧ f.2.2.2.2.2.1 - c0 ≤ R.cells ∧ f.2.2.2.2.2.2 - n0 ≤ R.slots) (hH : q_hp D cid s0.heap.size h H) (hS : va_S (q_A s0) s.heap H locs) (hL : q_L L M.2.2.1 ls) (kk : ∀ (H1 : Heap) (locs1 : List Loc) (L1 : Array Slot), q_hp D cid s0.heap.size f.2.2.2 H1 → va_S (q_A s0) s.heap H1 locs1 → q_L L1 M.2.2.1 f.2.1 → W p l e R s m args below meth c H1 locs1 (f.2.2.2.2.2.1 - c0) (f.2.2.2.2.2.2 - n0) Q (F0 m f.1 L1 f.2.2.1)) : W p l e R s m args below meth c H locs (h.2.2.1 - c0) (h.2.2.2 - n0) Q (F0 m pc L st) := by
  obtain ⟨hx, hb, hr, hml, hown, hts, hlk, hnm, htab, hfr, hlo⟩ := hF
  simp only [q_stepI, q_nx] at hs
  split at hs
  · rename_i x hk
    split at hs
    · rename_i hlen
      subst hlen
      cases hs
      exact lv_aload_n hx hb hd rfl (hL.at hk (fun z => by cases z)) (kk H locs L hH hS hL)
    · cases hs
  · cases hs
theorem q_n_aload {k : Nat} (hF : q_Fx p s m args meth c R M) (hG : q_G E D cid s0) (hY : q_Y s0 s) {len : Nat} (hd : decode M.2.1 pc = .ok (.aload k, len)) (hs : q_stepI E M (.aload k) len pc ls st h = some (.inl f)) (hbd : c0 ≤ h.2.2.1 ∧ n0 ≤ h.2.2.2 ∧ f.2.2.2.2.2.1 - c0 ≤ R.cells ∧ f.2.2.2.2.2.2 - n0 ≤ R.slots) (hH : q_hp D cid s0.heap.size h H) (hS : va_S (q_A s0) s.heap H locs) (hL : q_L L M.2.2.1 ls) (kk : ∀ (H1 : Heap) (locs1 : List Loc) (L1 : Array Slot), q_hp D cid s0.heap.size f.2.2.2 H1 → va_S (q_A s0) s.heap H1 locs1 → q_L L1 M.2.2.1 f.2.1 → W p l e R s m args below meth c H1 locs1 (f.2.2.2.2.2.1 - c0) (f.2.2.2.2.2.2 - n0) Q (F0 m f.1 L1 f.2.2.1)) : W p l e R s m args below meth c H locs (h.2.2.1 - c0) (h.2.2.2 - n0) Q (F0 m pc L st) := by
  obtain ⟨hx, hb, hr, hml, hown, hts, hlk, hnm, htab, hfr, hlo⟩ := hF
  simp only [q_stepI, q_nx] at hs
  split at hs
  · rename_i x hk
    split at hs
    · rename_i hlen
      subst hlen
      cases hs
      exact lv_aload hx hb hd (hL.at hk (fun z => by cases z)) (kk H locs L hH hS hL)
    · cases hs
  · cases hs
theorem q_n_istore_n {k : Fin 4} (hF : q_Fx p s m args meth c R M) (hG : q_G E D cid s0) (hY : q_Y s0 s) {len : Nat} (hd : decode M.2.1 pc = .ok (.istore_n k, len)) (hs : q_stepI E M (.istore_n k) len pc ls st h = some (.inl f)) (hbd : c0 ≤ h.2.2.1 ∧ n0 ≤ h.2.2.2 ∧ f.2.2.2.2.2.1 - c0 ≤ R.cells ∧ f.2.2.2.2.2.2 - n0 ≤ R.slots) (hH : q_hp D cid s0.heap.size h H) (hS : va_S (q_A s0) s.heap H locs) (hL : q_L L M.2.2.1 ls) (kk : ∀ (H1 : Heap) (locs1 : List Loc) (L1 : Array Slot), q_hp D cid s0.heap.size f.2.2.2 H1 → va_S (q_A s0) s.heap H1 locs1 → q_L L1 M.2.2.1 f.2.1 → W p l e R s m args below meth c H1 locs1 (f.2.2.2.2.2.1 - c0) (f.2.2.2.2.2.2 - n0) Q (F0 m f.1 L1 f.2.2.1)) : W p l e R s m args below meth c H locs (h.2.2.1 - c0) (h.2.2.2 - n0) Q (F0 m pc L st) := by
  obtain ⟨hx, hb, hr, hml, hown, hts, hlk, hnm, htab, hfr, hlo⟩ := hF
  simp only [q_stepI, q_nx] at hs
  split at hs
  · split at hs
    · rename_i hlen
      obtain ⟨hlen, hk⟩ := hlen
      subst hlen
      cases hs
      exact lv_istore_n hx hb hd rfl hL.has (hL.1 ▸ hk) rfl (fun L1 h1 => kk H locs L1 hH hS (q_L.st1 hL.1 h1))
    · cases hs
  · cases hs
theorem q_n_istore {k : Nat} (hF : q_Fx p s m args meth c R M) (hG : q_G E D cid s0) (hY : q_Y s0 s) {len : Nat} (hd : decode M.2.1 pc = .ok (.istore k, len)) (hs : q_stepI E M (.istore k) len pc ls st h = some (.inl f)) (hbd : c0 ≤ h.2.2.1 ∧ n0 ≤ h.2.2.2 ∧ f.2.2.2.2.2.1 - c0 ≤ R.cells ∧ f.2.2.2.2.2.2 - n0 ≤ R.slots) (hH : q_hp D cid s0.heap.size h H) (hS : va_S (q_A s0) s.heap H locs) (hL : q_L L M.2.2.1 ls) (kk : ∀ (H1 : Heap) (locs1 : List Loc) (L1 : Array Slot), q_hp D cid s0.heap.size f.2.2.2 H1 → va_S (q_A s0) s.heap H1 locs1 → q_L L1 M.2.2.1 f.2.1 → W p l e R s m args below meth c H1 locs1 (f.2.2.2.2.2.1 - c0) (f.2.2.2.2.2.2 - n0) Q (F0 m f.1 L1 f.2.2.1)) : W p l e R s m args below meth c H locs (h.2.2.1 - c0) (h.2.2.2 - n0) Q (F0 m pc L st) := by
  obtain ⟨hx, hb, hr, hml, hown, hts, hlk, hnm, htab, hfr, hlo⟩ := hF
  simp only [q_stepI, q_nx] at hs
  split at hs
  · split at hs
    · rename_i hlen
      obtain ⟨hlen, hk⟩ := hlen
      subst hlen
      cases hs
      exact lv_istore hx hb hd hL.has (hL.1 ▸ hk) rfl (fun L1 h1 => kk H locs L1 hH hS (q_L.st1 hL.1 h1))
    · cases hs
  · cases hs
theorem q_n_astore_n {k : Fin 4} (hF : q_Fx p s m args meth c R M) (hG : q_G E D cid s0) (hY : q_Y s0 s) {len : Nat} (hd : decode M.2.1 pc = .ok (.astore_n k, len)) (hs : q_stepI E M (.astore_n k) len pc ls st h = some (.inl f)) (hbd : c0 ≤ h.2.2.1 ∧ n0 ≤ h.2.2.2 ∧ f.2.2.2.2.2.1 - c0 ≤ R.cells ∧ f.2.2.2.2.2.2 - n0 ≤ R.slots) (hH : q_hp D cid s0.heap.size h H) (hS : va_S (q_A s0) s.heap H locs) (hL : q_L L M.2.2.1 ls) (kk : ∀ (H1 : Heap) (locs1 : List Loc) (L1 : Array Slot), q_hp D cid s0.heap.size f.2.2.2 H1 → va_S (q_A s0) s.heap H1 locs1 → q_L L1 M.2.2.1 f.2.1 → W p l e R s m args below meth c H1 locs1 (f.2.2.2.2.2.1 - c0) (f.2.2.2.2.2.2 - n0) Q (F0 m f.1 L1 f.2.2.1)) : W p l e R s m args below meth c H locs (h.2.2.1 - c0) (h.2.2.2 - n0) Q (F0 m pc L st) := by
  obtain ⟨hx, hb, hr, hml, hown, hts, hlk, hnm, htab, hfr, hlo⟩ := hF
  simp only [q_stepI, q_nx] at hs
  split at hs
  · split at hs
    · rename_i hlen
      obtain ⟨hlen, hk⟩ := hlen
      subst hlen
      cases hs
      exact lv_astore_n hx hb hd rfl hL.has (hL.1 ▸ hk) rfl (fun L1 h1 => kk H locs L1 hH hS (q_L.st1 hL.1 h1))
    · cases hs
  · cases hs
theorem q_n_astore {k : Nat} (hF : q_Fx p s m args meth c R M) (hG : q_G E D cid s0) (hY : q_Y s0 s) {len : Nat} (hd : decode M.2.1 pc = .ok (.astore k, len)) (hs : q_stepI E M (.astore k) len pc ls st h = some (.inl f)) (hbd : c0 ≤ h.2.2.1 ∧ n0 ≤ h.2.2.2 ∧ f.2.2.2.2.2.1 - c0 ≤ R.cells ∧ f.2.2.2.2.2.2 - n0 ≤ R.slots) (hH : q_hp D cid s0.heap.size h H) (hS : va_S (q_A s0) s.heap H locs) (hL : q_L L M.2.2.1 ls) (kk : ∀ (H1 : Heap) (locs1 : List Loc) (L1 : Array Slot), q_hp D cid s0.heap.size f.2.2.2 H1 → va_S (q_A s0) s.heap H1 locs1 → q_L L1 M.2.2.1 f.2.1 → W p l e R s m args below meth c H1 locs1 (f.2.2.2.2.2.1 - c0) (f.2.2.2.2.2.2 - n0) Q (F0 m f.1 L1 f.2.2.1)) : W p l e R s m args below meth c H locs (h.2.2.1 - c0) (h.2.2.2 - n0) Q (F0 m pc L st) := by
  obtain ⟨hx, hb, hr, hml, hown, hts, hlk, hnm, htab, hfr, hlo⟩ := hF
  simp only [q_stepI, q_nx] at hs
  split at hs
  · split at hs
    · rename_i hlen
      obtain ⟨hlen, hk⟩ := hlen
      subst hlen
      cases hs
      exact lv_astore hx hb hd hL.has (hL.1 ▸ hk) rfl (fun L1 h1 => kk H locs L1 hH hS (q_L.st1 hL.1 h1))
    · cases hs
  · cases hs
theorem q_n_lstore_n {k : Fin 4} (hF : q_Fx p s m args meth c R M) (hG : q_G E D cid s0) (hY : q_Y s0 s) {len : Nat} (hd : decode M.2.1 pc = .ok (.lstore_n k, len)) (hs : q_stepI E M (.lstore_n k) len pc ls st h = some (.inl f)) (hbd : c0 ≤ h.2.2.1 ∧ n0 ≤ h.2.2.2 ∧ f.2.2.2.2.2.1 - c0 ≤ R.cells ∧ f.2.2.2.2.2.2 - n0 ≤ R.slots) (hH : q_hp D cid s0.heap.size h H) (hS : va_S (q_A s0) s.heap H locs) (hL : q_L L M.2.2.1 ls) (kk : ∀ (H1 : Heap) (locs1 : List Loc) (L1 : Array Slot), q_hp D cid s0.heap.size f.2.2.2 H1 → va_S (q_A s0) s.heap H1 locs1 → q_L L1 M.2.2.1 f.2.1 → W p l e R s m args below meth c H1 locs1 (f.2.2.2.2.2.1 - c0) (f.2.2.2.2.2.2 - n0) Q (F0 m f.1 L1 f.2.2.1)) : W p l e R s m args below meth c H locs (h.2.2.1 - c0) (h.2.2.2 - n0) Q (F0 m pc L st) := by
  obtain ⟨hx, hb, hr, hml, hown, hts, hlk, hnm, htab, hfr, hlo⟩ := hF
  simp only [q_stepI, q_nx] at hs
  split at hs
  · split at hs
    · rename_i hlen
      obtain ⟨hlen, hk⟩ := hlen
      subst hlen
      cases hs
      exact lv_lstore_n hx hb hd rfl hL.has (hL.1 ▸ hk) rfl (fun L1 h1 => kk H locs L1 hH hS (q_L.st2 hL.1 h1))
    · cases hs
  · cases hs
theorem q_n_fstore {k : Nat} (hF : q_Fx p s m args meth c R M) (hG : q_G E D cid s0) (hY : q_Y s0 s) {len : Nat} (hd : decode M.2.1 pc = .ok (.fstore k, len)) (hs : q_stepI E M (.fstore k) len pc ls st h = some (.inl f)) (hbd : c0 ≤ h.2.2.1 ∧ n0 ≤ h.2.2.2 ∧ f.2.2.2.2.2.1 - c0 ≤ R.cells ∧ f.2.2.2.2.2.2 - n0 ≤ R.slots) (hH : q_hp D cid s0.heap.size h H) (hS : va_S (q_A s0) s.heap H locs) (hL : q_L L M.2.2.1 ls) (kk : ∀ (H1 : Heap) (locs1 : List Loc) (L1 : Array Slot), q_hp D cid s0.heap.size f.2.2.2 H1 → va_S (q_A s0) s.heap H1 locs1 → q_L L1 M.2.2.1 f.2.1 → W p l e R s m args below meth c H1 locs1 (f.2.2.2.2.2.1 - c0) (f.2.2.2.2.2.2 - n0) Q (F0 m f.1 L1 f.2.2.1)) : W p l e R s m args below meth c H locs (h.2.2.1 - c0) (h.2.2.2 - n0) Q (F0 m pc L st) := by
  obtain ⟨hx, hb, hr, hml, hown, hts, hlk, hnm, htab, hfr, hlo⟩ := hF
  simp only [q_stepI, q_nx] at hs
  split at hs
  · split at hs
    · rename_i hlen
      obtain ⟨hlen, hk⟩ := hlen
      subst hlen
      cases hs
      exact lv_fstore hx hb hd hL.has (hL.1 ▸ hk) rfl (fun L1 h1 => kk H locs L1 hH hS (q_L.st1 hL.1 h1))
    · cases hs
  · cases hs
theorem q_n_dstore {k : Nat} (hF : q_Fx p s m args meth c R M) (hG : q_G E D cid s0) (hY : q_Y s0 s) {len : Nat} (hd : decode M.2.1 pc = .ok (.dstore k, len)) (hs : q_stepI E M (.dstore k) len pc ls st h = some (.inl f)) (hbd : c0 ≤ h.2.2.1 ∧ n0 ≤ h.2.2.2 ∧ f.2.2.2.2.2.1 - c0 ≤ R.cells ∧ f.2.2.2.2.2.2 - n0 ≤ R.slots) (hH : q_hp D cid s0.heap.size h H) (hS : va_S (q_A s0) s.heap H locs) (hL : q_L L M.2.2.1 ls) (kk : ∀ (H1 : Heap) (locs1 : List Loc) (L1 : Array Slot), q_hp D cid s0.heap.size f.2.2.2 H1 → va_S (q_A s0) s.heap H1 locs1 → q_L L1 M.2.2.1 f.2.1 → W p l e R s m args below meth c H1 locs1 (f.2.2.2.2.2.1 - c0) (f.2.2.2.2.2.2 - n0) Q (F0 m f.1 L1 f.2.2.1)) : W p l e R s m args below meth c H locs (h.2.2.1 - c0) (h.2.2.2 - n0) Q (F0 m pc L st) := by
  obtain ⟨hx, hb, hr, hml, hown, hts, hlk, hnm, htab, hfr, hlo⟩ := hF
  simp only [q_stepI, q_nx] at hs
  split at hs
  · split at hs
    · rename_i hlen
      obtain ⟨hlen, hk⟩ := hlen
      subst hlen
      cases hs
      exact lv_dstore hx hb hd hL.has (hL.1 ▸ hk) rfl (fun L1 h1 => kk H locs L1 hH hS (q_L.st2 hL.1 h1))
    · cases hs
  · cases hs
theorem q_n_lstore {k : Nat} (hF : q_Fx p s m args meth c R M) (hG : q_G E D cid s0) (hY : q_Y s0 s) {len : Nat} (hd : decode M.2.1 pc = .ok (.lstore k, len)) (hs : q_stepI E M (.lstore k) len pc ls st h = some (.inl f)) (hbd : c0 ≤ h.2.2.1 ∧ n0 ≤ h.2.2.2 ∧ f.2.2.2.2.2.1 - c0 ≤ R.cells ∧ f.2.2.2.2.2.2 - n0 ≤ R.slots) (hH : q_hp D cid s0.heap.size h H) (hS : va_S (q_A s0) s.heap H locs) (hL : q_L L M.2.2.1 ls) (kk : ∀ (H1 : Heap) (locs1 : List Loc) (L1 : Array Slot), q_hp D cid s0.heap.size f.2.2.2 H1 → va_S (q_A s0) s.heap H1 locs1 → q_L L1 M.2.2.1 f.2.1 → W p l e R s m args below meth c H1 locs1 (f.2.2.2.2.2.1 - c0) (f.2.2.2.2.2.2 - n0) Q (F0 m f.1 L1 f.2.2.1)) : W p l e R s m args below meth c H locs (h.2.2.1 - c0) (h.2.2.2 - n0) Q (F0 m pc L st) := by
  obtain ⟨hx, hb, hr, hml, hown, hts, hlk, hnm, htab, hfr, hlo⟩ := hF
  simp only [q_stepI, q_nx] at hs
  split at hs
  · split at hs
    · rename_i hlen
      obtain ⟨hlen, hk⟩ := hlen
      subst hlen
      cases hs
      exact lv_lstore hx hb hd hL.has (hL.1 ▸ hk) rfl (fun L1 h1 => kk H locs L1 hH hS (q_L.st2 hL.1 h1))
    · cases hs
  · cases hs
theorem q_n_iinc {k : Nat} {n : Int} (hF : q_Fx p s m args meth c R M) (hG : q_G E D cid s0) (hY : q_Y s0 s) {len : Nat} (hd : decode M.2.1 pc = .ok (.iinc k n, len)) (hs : q_stepI E M (.iinc k n) len pc ls st h = some (.inl f)) (hbd : c0 ≤ h.2.2.1 ∧ n0 ≤ h.2.2.2 ∧ f.2.2.2.2.2.1 - c0 ≤ R.cells ∧ f.2.2.2.2.2.2 - n0 ≤ R.slots) (hH : q_hp D cid s0.heap.size h H) (hS : va_S (q_A s0) s.heap H locs) (hL : q_L L M.2.2.1 ls) (kk : ∀ (H1 : Heap) (locs1 : List Loc) (L1 : Array Slot), q_hp D cid s0.heap.size f.2.2.2 H1 → va_S (q_A s0) s.heap H1 locs1 → q_L L1 M.2.2.1 f.2.1 → W p l e R s m args below meth c H1 locs1 (f.2.2.2.2.2.1 - c0) (f.2.2.2.2.2.2 - n0) Q (F0 m f.1 L1 f.2.2.1)) : W p l e R s m args below meth c H locs (h.2.2.1 - c0) (h.2.2.2 - n0) Q (F0 m pc L st) := by
  obtain ⟨hx, hb, hr, hml, hown, hts, hlk, hnm, htab, hfr, hlo⟩ := hF
  simp only [q_stepI, q_nx] at hs
  split at hs
  · rename_i x hk
    split at hs
    · rename_i hlen
      subst hlen
      cases hs
      obtain ⟨j, hj⟩ := List.getElem?_of_mem (q_lv_mem.mpr ⟨hk, fun z => by cases z⟩)
      exact lv_iinc hx hb hd hL.has hj rfl (hL.1 ▸ (List.getElem?_eq_some_iff.mp hk).1) rfl (fun L1 h1 => kk H locs L1 hH hS (q_L.st1 hL.1 h1))
    · cases hs
  · cases hs
theorem q_n_ldc2_w {ix : Nat} (hF : q_Fx p s m args meth c R M) (hG : q_G E D cid s0) (hY : q_Y s0 s) {len : Nat} (hd : decode M.2.1 pc = .ok (.ldc2_w ix, len)) (hs : q_stepI E M (.ldc2_w ix) len pc ls st h = some (.inl f)) (hbd : c0 ≤ h.2.2.1 ∧ n0 ≤ h.2.2.2 ∧ f.2.2.2.2.2.1 - c0 ≤ R.cells ∧ f.2.2.2.2.2.2 - n0 ≤ R.slots) (hH : q_hp D cid s0.heap.size h H) (hS : va_S (q_A s0) s.heap H locs) (hL : q_L L M.2.2.1 ls) (kk : ∀ (H1 : Heap) (locs1 : List Loc) (L1 : Array Slot), q_hp D cid s0.heap.size f.2.2.2 H1 → va_S (q_A s0) s.heap H1 locs1 → q_L L1 M.2.2.1 f.2.1 → W p l e R s m args below meth c H1 locs1 (f.2.2.2.2.2.1 - c0) (f.2.2.2.2.2.2 - n0) Q (F0 m f.1 L1 f.2.2.1)) : W p l e R s m args below meth c H locs (h.2.2.1 - c0) (h.2.2.2 - n0) Q (F0 m pc L st) := by
  obtain ⟨hx, hb, hr, hml, hown, hts, hlk, hnm, htab, hfr, hlo⟩ := hF
  simp only [q_stepI, q_nx] at hs
  split at hs
  · rename_i x pos hq
    split at hs
    · rename_i hlen
      obtain ⟨hlen, ho⟩ := hlen
      subst hlen
      cases hs
      exact lv_ldc2 hx hb hown (q_word hts (q_ldl_ok _ ho _ (q_lk_mem hq)) rfl) hd (kk H locs L hH hS hL)
    · cases hs
  · cases hs
theorem q_go_some {off : Int} (hs : q_go pc off ls st h = some (.inl f)) : ∃ t, (pc : Int) + off = ((t : Nat) : Int) ∧ f = (t, ls, st, h) := by
  unfold q_go q_nx at hs
  split at hs
  · rename_i t ht
    cases hs
    exact ⟨t, q_tgt_ok ht, rfl⟩
  · cases hs
theorem q_n_ifnonnull {off : Int} (hF : q_Fx p s m args meth c R M) (hG : q_G E D cid s0) (hY : q_Y s0 s) {len : Nat} (hd : decode M.2.1 pc = .ok (.ifnonnull off, len)) (hs : q_stepI E M (.ifnonnull off) len pc ls st h = some (.inl f)) (hbd : c0 ≤ h.2.2.1 ∧ n0 ≤ h.2.2.2 ∧ f.2.2.2.2.2.1 - c0 ≤ R.cells ∧ f.2.2.2.2.2.2 - n0 ≤ R.slots) (hH : q_hp D cid s0.heap.size h H) (hS : va_S (q_A s0) s.heap H locs) (hL : q_L L M.2.2.1 ls) (kk : ∀ (H1 : Heap) (locs1 : List Loc) (L1 : Array Slot), q_hp D cid s0.heap.size f.2.2.2 H1 → va_S (q_A s0) s.heap H1 locs1 → q_L L1 M.2.2.1 f.2.1 → W p l e R s m args below meth c H1 locs1 (f.2.2.2.2.2.1 - c0) (f.2.2.2.2.2.2 - n0) Q (F0 m f.1 L1 f.2.2.1)) : W p l e R s m args below meth c H locs (h.2.2.1 - c0) (h.2.2.2 - n0) Q (F0 m pc L st) := by
  obtain ⟨hx, hb, hr, hml, hown, hts, hlk, hnm, htab, hfr, hlo⟩ := hF
  simp only [q_stepI, q_nx] at hs
  split at hs
  · split at hs
    · rename_i hlen
      subst hlen
      obtain ⟨t, ht, rfl⟩ := q_go_some hs
      exact lv_ifnonnull hx hb hd ht (kk H locs L hH hS hL)
    · cases hs
  · cases hs
theorem q_n_ifnull {off : Int} (hF : q_Fx p s m args meth c R M) (hG : q_G E D cid s0) (hY : q_Y s0 s) {len : Nat} (hd : decode M.2.1 pc = .ok (.ifnull off, len)) (hs : q_stepI E M (.ifnull off) len pc ls st h = some (.inl f)) (hbd : c0 ≤ h.2.2.1 ∧ n0 ≤ h.2.2.2 ∧ f.2.2.2.2.2.1 - c0 ≤ R.cells ∧ f.2.2.2.2.2.2 - n0 ≤ R.slots) (hH : q_hp D cid s0.heap.size h H) (hS : va_S (q_A s0) s.heap H locs) (hL : q_L L M.2.2.1 ls) (kk : ∀ (H1 : Heap) (locs1 : List Loc) (L1 : Array Slot), q_hp D cid s0.heap.size f.2.2.2 H1 → va_S (q_A s0) s.heap H1 locs1 → q_L L1 M.2.2.1 f.2.1 → W p l e R s m args below meth c H1 locs1 (f.2.2.2.2.2.1 - c0) (f.2.2.2.2.2.2 - n0) Q (F0 m f.1 L1 f.2.2.1)) : W p l e R s m args below meth c H locs (h.2.2.1 - c0) (h.2.2.2 - n0) Q (F0 m pc L st) := by
  obtain ⟨hx, hb, hr, hml, hown, hts, hlk, hnm, htab, hfr, hlo⟩ := hF
  simp only [q_stepI, q_nx] at hs
  split at hs
  · split at hs
    · rename_i hlen
      subst hlen
      cases hs
      exact lv_ifnull hx hb hd (kk H locs L hH hS hL)
    · cases hs
  · cases hs
theorem q_n_goto {off : Int} (hF : q_Fx p s m args meth c R M) (hG : q_G E D cid s0) (hY : q_Y s0 s) {len : Nat} (hd : decode M.2.1 pc = .ok (.goto off, len)) (hs : q_stepI E M (.goto off) len pc ls st h = some (.inl f)) (hbd : c0 ≤ h.2.2.1 ∧ n0 ≤ h.2.2.2 ∧ f.2.2.2.2.2.1 - c0 ≤ R.cells ∧ f.2.2.2.2.2.2 - n0 ≤ R.slots) (hH : q_hp D cid s0.heap.size h H) (hS : va_S (q_A s0) s.heap H locs) (hL : q_L L M.2.2.1 ls) (kk : ∀ (H1 : Heap) (locs1 : List Loc) (L1 : Array Slot), q_hp D cid s0.heap.size f.2.2.2 H1 → va_S (q_A s0) s.heap H1 locs1 → q_L L1 M.2.2.1 f.2.1 → W p l e R s m args below meth c H1 locs1 (f.2.2.2.2.2.1 - c0) (f.2.2.2.2.2.2 - n0) Q (F0 m f.1 L1 f.2.2.1)) : W p l e R s m args below meth c H locs (h.2.2.1 - c0) (h.2.2.2 - n0) Q (F0 m pc L st) := by
  obtain ⟨hx, hb, hr, hml, hown, hts, hlk, hnm, htab, hfr, hlo⟩ := hF
  simp only [q_stepI, q_nx] at hs
  split at hs
  · rename_i hlen
    subst hlen
    obtain ⟨t, ht, rfl⟩ := q_go_some hs
    exact lv_goto hx hb hd ht (kk H locs L hH hS hL)
  · cases hs
theorem q_n_ifCond_eq {off : Int} (hF : q_Fx p s m args meth c R M) (hG : q_G E D cid s0) (hY : q_Y s0 s) {len : Nat} (hd : decode M.2.1 pc = .ok (.ifCond .eq off, len)) (hs : q_stepI E M (.ifCond .eq off) len pc ls st h = some (.inl f)) (hbd : c0 ≤ h.2.2.1 ∧ n0 ≤ h.2.2.2 ∧ f.2.2.2.2.2.1 - c0 ≤ R.cells ∧ f.2.2.2.2.2.2 - n0 ≤ R.slots) (hH : q_hp D cid s0.heap.size h H) (hS : va_S (q_A s0) s.heap H locs) (hL : q_L L M.2.2.1 ls) (kk : ∀ (H1 : Heap) (locs1 : List Loc) (L1 : Array Slot), q_hp D cid s0.heap.size f.2.2.2 H1 → va_S (q_A s0) s.heap H1 locs1 → q_L L1 M.2.2.1 f.2.1 → W p l e R s m args below meth c H1 locs1 (f.2.2.2.2.2.1 - c0) (f.2.2.2.2.2.2 - n0) Q (F0 m f.1 L1 f.2.2.1)) : W p l e R s m args below meth c H locs (h.2.2.1 - c0) (h.2.2.2 - n0) Q (F0 m pc L st) := by
  obtain ⟨hx, hb, hr, hml, hown, hts, hlk, hnm, htab, hfr, hlo⟩ := hF
  simp only [q_stepI, q_nx] at hs
  split at hs
  · rename_i x st1
    split at hs
    · rename_i hlen
      subst hlen
      unfold q_br q_nx at hs
      split at hs
      · rename_i t ht
        unfold q_if at hs
        refine lv_if_eq hx hb hd (q_tgt_ok ht) (fun hc => ?_) (fun hc => ?_)
        · have e2 : q_cond .eq x 0 = true := decide_eq_true hc
          rw [e2] at hs
          cases hs
          exact kk H locs L hH hS hL
        · have e2 : q_cond .eq x 0 = false := decide_eq_false hc
          rw [e2] at hs
          cases hs
          exact kk H locs L hH hS hL
      · cases hs
    · cases hs
  · cases hs
theorem q_n_if_icmp_eq {off : Int} (hF : q_Fx p s m args meth c R M) (hG : q_G E D cid s0) (hY : q_Y s0 s) {len : Nat} (hd : decode M.2.1 pc = .ok (.if_icmp .eq off, len)) (hs : q_stepI E M (.if_icmp .eq off) len pc ls st h = some (.inl f)) (hbd : c0 ≤ h.2.2.1 ∧ n0 ≤ h.2.2.2 ∧ f.2.2.2.2.2.1 - c0 ≤ R.cells ∧ f.2.2.2.2.2.2 - n0 ≤ R.slots) (hH : q_hp D cid s0.heap.size h H) (hS : va_S (q_A s0) s.heap H locs) (hL : q_L L M.2.2.1 ls) (kk : ∀ (H1 : Heap) (locs1 : List Loc) (L1 : Array Slot), q_hp D cid s0.heap.size f.2.2.2 H1 → va_S (q_A s0) s.heap H1 locs1 → q_L L1 M.2.2.1 f.2.1 → W p l e R s m args below meth c H1 locs1 (f.2.2.2.2.2.1 - c0) (f.2.2.2.2.2.2 - n0) Q (F0 m f.1 L1 f.2.2.1)) : W p l e R s m args below meth c H locs (h.2.2.1 - c0) (h.2.2.2 - n0) Q (F0 m pc L st) := by
  obtain ⟨hx, hb, hr, hml, hown, hts, hlk, hnm, htab, hfr, hlo⟩ := hF
  simp only [q_stepI, q_nx] at hs
  split at hs
  · rename_i y x st1
    split at hs
    · rename_i hlen
      subst hlen
      unfold q_br q_nx at hs
      split at hs
      · rename_i t ht
        unfold q_if at hs
        refine lv_icmp_eq hx hb hd (q_tgt_ok ht) (fun hc => ?_) (fun hc => ?_)
        · have e2 : q_cond .eq x y = true := decide_eq_true hc
          rw [e2] at hs
          cases hs
          exact kk H locs L hH hS hL
        · have e2 : q_cond .eq x y = false := decide_eq_false hc
          rw [e2] at hs
          cases hs
          exact kk H locs L hH hS hL
      · cases hs
    · cases hs
  · cases hs
theorem q_n_ifCond_ne {off : Int} (hF : q_Fx p s m args meth c R M) (hG : q_G E D cid s0) (hY : q_Y s0 s) {len : Nat} (hd : decode M.2.1 pc = .ok (.ifCond .ne off, len)) (hs : q_stepI E M (.ifCond .ne off) len pc ls st h = some (.inl f)) (hbd : c0 ≤ h.2.2.1 ∧ n0 ≤ h.2.2.2 ∧ f.2.2.2.2.2.1 - c0 ≤ R.cells ∧ f.2.2.2.2.2.2 - n0 ≤ R.slots) (hH : q_hp D cid s0.heap.size h H) (hS : va_S (q_A s0) s.heap H locs) (hL : q_L L M.2.2.1 ls) (kk : ∀ (H1 : Heap) (locs1 : List Loc) (L1 : Array Slot), q_hp D cid s0.heap.size f.2.2.2 H1 → va_S (q_A s0) s.heap H1 locs1 → q_L L1 M.2.2.1 f.2.1 → W p l e R s m args below meth c H1 locs1 (f.2.2.2.2.2.1 - c0) (f.2.2.2.2.2.2 - n0) Q (F0 m f.1 L1 f.2.2.1)) : W p l e R s m args below meth c H locs (h.2.2.1 - c0) (h.2.2.2 - n0) Q (F0 m pc L st) := by
  obtain ⟨hx, hb, hr, hml, hown, hts, hlk, hnm, htab, hfr, hlo⟩ := hF
  simp only [q_stepI, q_nx] at hs
  split at hs
  · rename_i x st1
    split at hs
    · rename_i hlen
      subst hlen
      unfold q_br q_nx at hs
      split at hs
      · rename_i t ht
        unfold q_if at hs
        refine lv_if_ne hx hb hd (q_tgt_ok ht) (fun hc => ?_) (fun hc => ?_)
        · have e2 : q_cond .ne x 0 = true := decide_eq_true hc
          rw [e2] at hs
          cases hs
          exact kk H locs L hH hS hL
        · have e2 : q_cond .ne x 0 = false := decide_eq_false (fun z => z hc)
          rw [e2] at hs
          cases hs
          exact kk H locs L hH hS hL
      · cases hs
    · cases hs
  · cases hs
theorem q_n_if_icmp_ne {off : Int} (hF : q_Fx p s m args meth c R M) (hG : q_G E D cid s0) (hY : q_Y s0 s) {len : Nat} (hd : decode M.2.1 pc = .ok (.if_icmp .ne off, len)) (hs : q_stepI E M (.if_icmp .ne off) len pc ls st h = some (.inl f)) (hbd : c0 ≤ h.2.2.1 ∧ n0 ≤ h.2.2.2 ∧ f.2.2.2.2.2.1 - c0 ≤ R.cells ∧ f.2.2.2.2.2.2 - n0 ≤ R.slots) (hH : q_hp D cid s0.heap.size h H) (hS : va_S (q_A s0) s.heap H locs) (hL : q_L L M.2.2.1 ls) (kk : ∀ (H1 : Heap) (locs1 : List Loc) (L1 : Array Slot), q_hp D cid s0.heap.size f.2.2.2 H1 → va_S (q_A s0) s.heap H1 locs1 → q_L L1 M.2.2.1 f.2.1 → W p l e R s m args below meth c H1 locs1 (f.2.2.2.2.2.1 - c0) (f.2.2.2.2.2.2 - n0) Q (F0 m f.1 L1 f.2.2.1)) : W p l e R s m args below meth c H locs (h.2.2.1 - c0) (h.2.2.2 - n0) Q (F0 m pc L st) := by
  obtain ⟨hx, hb, hr, hml, hown, hts, hlk, hnm, htab, hfr, hlo⟩ := hF
  simp only [q_stepI, q_nx] at hs
  split at hs
  · rename_i y x st1
    split at hs
    · rename_i hlen
      subst hlen
      unfold q_br q_nx at hs
      split at hs
      · rename_i t ht
        unfold q_if at hs
        refine lv_icmp_ne hx hb hd (q_tgt_ok ht) (fun hc => ?_) (fun hc => ?_)
        · have e2 : q_cond .ne x y = true := decide_eq_true hc
          rw [e2] at hs
          cases hs
          exact kk H locs L hH hS hL
        · have e2 : q_cond .ne x y = false := decide_eq_false (fun z => z hc)
          rw [e2] at hs
          cases hs
          exact kk H locs L hH hS hL
      · cases hs
    · cases hs
  · cases hs
theorem q_n_ifCond_lt {off : Int} (hF : q_Fx p s m args meth c R M) (hG : q_G E D cid s0) (hY : q_Y s0 s) {len : Nat} (hd : decode M.2.1 pc = .ok (.ifCond .lt off, len)) (hs : q_stepI E M (.ifCond .lt off) len pc ls st h = some (.inl f)) (hbd : c0 ≤ h.2.2.1 ∧ n0 ≤ h.2.2.2 ∧ f.2.2.2.2.2.1 - c0 ≤ R.cells ∧ f.2.2.2.2.2.2 - n0 ≤ R.slots) (hH : q_hp D cid s0.heap.size h H) (hS : va_S (q_A s0) s.heap H locs) (hL : q_L L M.2.2.1 ls) (kk : ∀ (H1 : Heap) (locs1 : List Loc) (L1 : Array Slot), q_hp D cid s0.heap.size f.2.2.2 H1 → va_S (q_A s0) s.heap H1 locs1 → q_L L1 M.2.2.1 f.2.1 → W p l e R s m args below meth c H1 locs1 (f.2.2.2.2.2.1 - c0) (f.2.2.2.2.2.2 - n0) Q (F0 m f.1 L1 f.2.2.1)) : W p l e R s m args below meth c H locs (h.2.2.1 - c0) (h.2.2.2 - n0) Q (F0 m pc L st) := by
  obtain ⟨hx, hb, hr, hml, hown, hts, hlk, hnm, htab, hfr, hlo⟩ := hF
  simp only [q_stepI, q_nx] at hs
  split at hs
  · rename_i x st1
    split at hs
    · rename_i hlen
      subst hlen
      unfold q_br q_nx at hs
      split at hs
      · rename_i t ht
        unfold q_if at hs
        refine lv_if_lt hx hb hd (q_tgt_ok ht) (fun hc => ?_) (fun hc => ?_)
        · have e2 : q_cond .lt x 0 = true := decide_eq_true hc
          rw [e2] at hs
          cases hs
          exact kk H locs L hH hS hL
        · have e2 : q_cond .lt x 0 = false := decide_eq_false hc
          rw [e2] at hs
          cases hs
          exact kk H locs L hH hS hL
      · cases hs
    · cases hs
  · cases hs
theorem q_n_if_icmp_lt {off : Int} (hF : q_Fx p s m args meth c R M) (hG : q_G E D cid s0) (hY : q_Y s0 s) {len : Nat} (hd : decode M.2.1 pc = .ok (.if_icmp .lt off, len)) (hs : q_stepI E M (.if_icmp .lt off) len pc ls st h = some (.inl f)) (hbd : c0 ≤ h.2.2.1 ∧ n0 ≤ h.2.2.2 ∧ f.2.2.2.2.2.1 - c0 ≤ R.cells ∧ f.2.2.2.2.2.2 - n0 ≤ R.slots) (hH : q_hp D cid s0.heap.size h H) (hS : va_S (q_A s0) s.heap H locs) (hL : q_L L M.2.2.1 ls) (kk : ∀ (H1 : Heap) (locs1 : List Loc) (L1 : Array Slot), q_hp D cid s0.heap.size f.2.2.2 H1 → va_S (q_A s0) s.heap H1 locs1 → q_L L1 M.2.2.1 f.2.1 → W p l e R s m args below meth c H1 locs1 (f.2.2.2.2.2.1 - c0) (f.2.2.2.2.2.2 - n0) Q (F0 m f.1 L1 f.2.2.1)) : W p l e R s m args below meth c H locs (h.2.2.1 - c0) (h.2.2.2 - n0) Q (F0 m pc L st) := by
  obtain ⟨hx, hb, hr, hml, hown, hts, hlk, hnm, htab, hfr, hlo⟩ := hF
  simp only [q_stepI, q_nx] at hs
  split at hs
  · rename_i y x st1
    split at hs
    · rename_i hlen
      subst hlen
      unfold q_br q_nx at hs
      split at hs
      · rename_i t ht
        unfold q_if at hs
        refine lv_icmp_lt hx hb hd (q_tgt_ok ht) (fun hc => ?_) (fun hc => ?_)
        · have e2 : q_cond .lt x y = true := decide_eq_true hc
          rw [e2] at hs
          cases hs
          exact kk H locs L hH hS hL
        · have e2 : q_cond .lt x y = false := decide_eq_false hc
          rw [e2] at hs
          cases hs
          exact kk H locs L hH hS hL
      · cases hs
    · cases hs
  · cases hs
theorem q_n_ifCond_ge {off : Int} (hF : q_Fx p s m args meth c R M) (hG : q_G E D cid s0) (hY : q_Y s0 s) {len : Nat} (hd : decode M.2.1 pc = .ok (.ifCond .ge off, len)) (hs : q_stepI E M (.ifCond .ge off) len pc ls st h = some (.inl f)) (hbd : c0 ≤ h.2.2.1 ∧ n0 ≤ h.2.2.2 ∧ f.2.2.2.2.2.1 - c0 ≤ R.cells ∧ f.2.2.2.2.2.2 - n0 ≤ R.slots) (hH : q_hp D cid s0.heap.size h H) (hS : va_S (q_A s0) s.heap H locs) (hL : q_L L M.2.2.1 ls) (kk : ∀ (H1 : Heap) (locs1 : List Loc) (L1 : Array Slot), q_hp D cid s0.heap.size f.2.2.2 H1 → va_S (q_A s0) s.heap H1 locs1 → q_L L1 M.2.2.1 f.2.1 → W p l e R s m args below meth c H1 locs1 (f.2.2.2.2.2.1 - c0) (f.2.2.2.2.2.2 - n0) Q (F0 m f.1 L1 f.2.2.1)) : W p l e R s m args below meth c H locs (h.2.2.1 - c0) (h.2.2.2 - n0) Q (F0 m pc L st) := by
  obtain ⟨hx, hb, hr, hml, hown, hts, hlk, hnm, htab, hfr, hlo⟩ := hF
  simp only [q_stepI, q_nx] at hs
  split at hs
  · rename_i x st1
    split at hs
    · rename_i hlen
      subst hlen
      unfold q_br q_nx at hs
      split at hs
      · rename_i t ht
        unfold q_if at hs
        refine lv_if_ge hx hb hd (q_tgt_ok ht) (fun hc => ?_) (fun hc => ?_)
        · have e2 : q_cond .ge x 0 = true := decide_eq_true hc
          rw [e2] at hs
          cases hs
          exact kk H locs L hH hS hL
        · have e2 : q_cond .ge x 0 = false := decide_eq_false hc
          rw [e2] at hs
          cases hs
          exact kk H locs L hH hS hL
      · cases hs
    · cases hs
  · cases hs
theorem q_n_if_icmp_ge {off : Int} (hF : q_Fx p s m args meth c R M) (hG : q_G E D cid s0) (hY : q_Y s0 s) {len : Nat} (hd : decode M.2.1 pc = .ok (.if_icmp .ge off, len)) (hs : q_stepI E M (.if_icmp .ge off) len pc ls st h = some (.inl f)) (hbd : c0 ≤ h.2.2.1 ∧ n0 ≤ h.2.2.2 ∧ f.2.2.2.2.2.1 - c0 ≤ R.cells ∧ f.2.2.2.2.2.2 - n0 ≤ R.slots) (hH : q_hp D cid s0.heap.size h H) (hS : va_S (q_A s0) s.heap H locs) (hL : q_L L M.2.2.1 ls) (kk : ∀ (H1 : Heap) (locs1 : List Loc) (L1 : Array Slot), q_hp D cid s0.heap.size f.2.2.2 H1 → va_S (q_A s0) s.heap H1 locs1 → q_L L1 M.2.2.1 f.2.1 → W p l e R s m args below meth c H1 locs1 (f.2.2.2.2.2.1 - c0) (f.2.2.2.2.2.2 - n0) Q (F0 m f.1 L1 f.2.2.1)) : W p l e R s m args below meth c H locs (h.2.2.1 - c0) (h.2.2.2 - n0) Q (F0 m pc L st) := by
  obtain ⟨hx, hb, hr, hml, hown, hts, hlk, hnm, htab, hfr, hlo⟩ := hF
  simp only [q_stepI, q_nx] at hs
  split at hs
  · rename_i y x st1
    split at hs
    · rename_i hlen
      subst hlen
      unfold q_br q_nx at hs
      split at hs
      · rename_i t ht
        unfold q_if at hs
        refine lv_icmp_ge hx hb hd (q_tgt_ok ht) (fun hc => ?_) (fun hc => ?_)
        · have e2 : q_cond .ge x y = true := decide_eq_true hc
          rw [e2] at hs
          cases hs
          exact kk H locs L hH hS hL
        · have e2 : q_cond .ge x y = false := decide_eq_false hc
          rw [e2] at hs
          cases hs
          exact kk H locs L hH hS hL
      · cases hs
    · cases hs
  · cases hs
theorem q_n_ifCond_gt {off : Int} (hF : q_Fx p s m args meth c R M) (hG : q_G E D cid s0) (hY : q_Y s0 s) {len : Nat} (hd : decode M.2.1 pc = .ok (.ifCond .gt off, len)) (hs : q_stepI E M (.ifCond .gt off) len pc ls st h = some (.inl f)) (hbd : c0 ≤ h.2.2.1 ∧ n0 ≤ h.2.2.2 ∧ f.2.2.2.2.2.1 - c0 ≤ R.cells ∧ f.2.2.2.2.2.2 - n0 ≤ R.slots) (hH : q_hp D cid s0.heap.size h H) (hS : va_S (q_A s0) s.heap H locs) (hL : q_L L M.2.2.1 ls) (kk : ∀ (H1 : Heap) (locs1 : List Loc) (L1 : Array Slot), q_hp D cid s0.heap.size f.2.2.2 H1 → va_S (q_A s0) s.heap H1 locs1 → q_L L1 M.2.2.1 f.2.1 → W p l e R s m args below meth c H1 locs1 (f.2.2.2.2.2.1 - c0) (f.2.2.2.2.2.2 - n0) Q (F0 m f.1 L1 f.2.2.1)) : W p l e R s m args below meth c H locs (h.2.2.1 - c0) (h.2.2.2 - n0) Q (F0 m pc L st) := by
  obtain ⟨hx, hb, hr, hml, hown, hts, hlk, hnm, htab, hfr, hlo⟩ := hF
  simp only [q_stepI, q_nx] at hs
  split at hs
  · rename_i x st1
    split at hs
    · rename_i hlen
      subst hlen
      unfold q_br q_nx at hs
      split at hs
      · rename_i t ht
        unfold q_if at hs
        refine lv_if_gt hx hb hd (q_tgt_ok ht) (fun hc => ?_) (fun hc => ?_)
        · have e2 : q_cond .gt x 0 = true := decide_eq_true hc
          rw [e2] at hs
          cases hs
          exact kk H locs L hH hS hL
        · have e2 : q_cond .gt x 0 = false := decide_eq_false hc
          rw [e2] at hs
          cases hs
          exact kk H locs L hH hS hL
      · cases hs
    · cases hs
  · cases hs
theorem q_n_if_icmp_gt {off : Int} (hF : q_Fx p s m args meth c R M) (hG : q_G E D cid s0) (hY : q_Y s0 s) {len : Nat} (hd : decode M.2.1 pc = .ok (.if_icmp .gt off, len)) (hs : q_stepI E M (.if_icmp .gt off) len pc ls st h = some (.inl f)) (hbd : c0 ≤ h.2.2.1 ∧ n0 ≤ h.2.2.2 ∧ f.2.2.2.2.2.1 - c0 ≤ R.cells ∧ f.2.2.2.2.2.2 - n0 ≤ R.slots) (hH : q_hp D cid s0.heap.size h H) (hS : va_S (q_A s0) s.heap H locs) (hL : q_L L M.2.2.1 ls) (kk : ∀ (H1 : Heap) (locs1 : List Loc) (L1 : Array Slot), q_hp D cid s0.heap.size f.2.2.2 H1 → va_S (q_A s0) s.heap H1 locs1 → q_L L1 M.2.2.1 f.2.1 → W p l e R s m args below meth c H1 locs1 (f.2.2.2.2.2.1 - c0) (f.2.2.2.2.2.2 - n0) Q (F0 m f.1 L1 f.2.2.1)) : W p l e R s m args below meth c H locs (h.2.2.1 - c0) (h.2.2.2 - n0) Q (F0 m pc L st) := by
  obtain ⟨hx, hb, hr, hml, hown, hts, hlk, hnm, htab, hfr, hlo⟩ := hF
  simp only [q_stepI, q_nx] at hs
  split at hs
  · rename_i y x st1
    split at hs
    · rename_i hlen
      subst hlen
      unfold q_br q_nx at hs
      split at hs
      · rename_i t ht
        unfold q_if at hs
        refine lv_icmp_gt hx hb hd (q_tgt_ok ht) (fun hc => ?_) (fun hc => ?_)
        · have e2 : q_cond .gt x y = true := decide_eq_true hc
          rw [e2] at hs
          cases hs
          exact kk H locs L hH hS hL
        · have e2 : q_cond .gt x y = false := decide_eq_false hc
          rw [e2] at hs
          cases hs
          exact kk H locs L hH hS hL
      · cases hs
    · cases hs
  · cases hs
theorem q_n_ifCond_le {off : Int} (hF : q_Fx p s m args meth c R M) (hG : q_G E D cid s0) (hY : q_Y s0 s) {len : Nat} (hd : decode M.2.1 pc = .ok (.ifCond .le off, len)) (hs : q_stepI E M (.ifCond .le off) len pc ls st h = some (.inl f)) (hbd : c0 ≤ h.2.2.1 ∧ n0 ≤ h.2.2.2 ∧ f.2.2.2.2.2.1 - c0 ≤ R.cells ∧ f.2.2.2.2.2.2 - n0 ≤ R.slots) (hH : q_hp D cid s0.heap.size h H) (hS : va_S (q_A s0) s.heap H locs) (hL : q_L L M.2.2.1 ls) (kk : ∀ (H1 : Heap) (locs1 : List Loc) (L1 : Array Slot), q_hp D cid s0.heap.size f.2.2.2 H1 → va_S (q_A s0) s.heap H1 locs1 → q_L L1 M.2.2.1 f.2.1 → W p l e R s m args below meth c H1 locs1 (f.2.2.2.2.2.1 - c0) (f.2.2.2.2.2.2 - n0) Q (F0 m f.1 L1 f.2.2.1)) : W p l e R s m args below meth c H locs (h.2.2.1 - c0) (h.2.2.2 - n0) Q (F0 m pc L st) := by
  obtain ⟨hx, hb, hr, hml, hown, hts, hlk, hnm, htab, hfr, hlo⟩ := hF
  simp only [q_stepI, q_nx] at hs
  split at hs
  · rename_i x st1
    split at hs
    · rename_i hlen
      subst hlen
      unfold q_br q_nx at hs
      split at hs
      · rename_i t ht
        unfold q_if at hs
        refine lv_if_le hx hb hd (q_tgt_ok ht) (fun hc => ?_) (fun hc => ?_)
        · have e2 : q_cond .le x 0 = true := decide_eq_true hc
          rw [e2] at hs
          cases hs
          exact kk H locs L hH hS hL
        · have e2 : q_cond .le x 0 = false := decide_eq_false hc
          rw [e2] at hs
          cases hs
          exact kk H locs L hH hS hL
      · cases hs
    · cases hs
  · cases hs
theorem q_n_if_icmp_le {off : Int} (hF : q_Fx p s m args meth c R M) (hG : q_G E D cid s0) (hY : q_Y s0 s) {len : Nat} (hd : decode M.2.1 pc = .ok (.if_icmp .le off, len)) (hs : q_stepI E M (.if_icmp .le off) len pc ls st h = some (.inl f)) (hbd : c0 ≤ h.2.2.1 ∧ n0 ≤ h.2.2.2 ∧ f.2.2.2.2.2.1 - c0 ≤ R.cells ∧ f.2.2.2.2.2.2 - n0 ≤ R.slots) (hH : q_hp D cid s0.heap.size h H) (hS : va_S (q_A s0) s.heap H locs) (hL : q_L L M.2.2.1 ls) (kk : ∀ (H1 : Heap) (locs1 : List Loc) (L1 : Array Slot), q_hp D cid s0.heap.size f.2.2.2 H1 → va_S (q_A s0) s.heap H1 locs1 → q_L L1 M.2.2.1 f.2.1 → W p l e R s m args below meth c H1 locs1 (f.2.2.2.2.2.1 - c0) (f.2.2.2.2.2.2 - n0) Q (F0 m f.1 L1 f.2.2.1)) : W p l e R s m args below meth c H locs (h.2.2.1 - c0) (h.2.2.2 - n0) Q (F0 m pc L st) := by
  obtain ⟨hx, hb, hr, hml, hown, hts, hlk, hnm, htab, hfr, hlo⟩ := hF
  simp only [q_stepI, q_nx] at hs
  split at hs
  · rename_i y x st1
    split at hs
    · rename_i hlen
      subst hlen
      unfold q_br q_nx at hs
      split at hs
      · rename_i t ht
        unfold q_if at hs
        refine lv_icmp_le hx hb hd (q_tgt_ok ht) (fun hc => ?_) (fun hc => ?_)
        · have e2 : q_cond .le x y = true := decide_eq_true hc
          rw [e2] at hs
          cases hs
          exact kk H locs L hH hS hL
        · have e2 : q_cond .le x y = false := decide_eq_false hc
          rw [e2] at hs
          cases hs
          exact kk H locs L hH hS hL
      · cases hs
    · cases hs
  · cases hs
theorem q_n_tableswitch {dflt lo hi : Int} {offs : Array Int} (hF : q_Fx p s m args meth c R M) (hG : q_G E D cid s0) (hY : q_Y s0 s) {len : Nat} (hd : decode M.2.1 pc = .ok (.tableswitch dflt lo hi offs, len)) (hs : q_stepI E M (.tableswitch dflt lo hi offs) len pc ls st h = some (.inl f)) (hbd : c0 ≤ h.2.2.1 ∧ n0 ≤ h.2.2.2 ∧ f.2.2.2.2.2.1 - c0 ≤ R.cells ∧ f.2.2.2.2.2.2 - n0 ≤ R.slots) (hH : q_hp D cid s0.heap.size h H) (hS : va_S (q_A s0) s.heap H locs) (hL : q_L L M.2.2.1 ls) (kk : ∀ (H1 : Heap) (locs1 : List Loc) (L1 : Array Slot), q_hp D cid s0.heap.size f.2.2.2 H1 → va_S (q_A s0) s.heap H1 locs1 → q_L L1 M.2.2.1 f.2.1 → W p l e R s m args below meth c H1 locs1 (f.2.2.2.2.2.1 - c0) (f.2.2.2.2.2.2 - n0) Q (F0 m f.1 L1 f.2.2.1)) : W p l e R s m args below meth c H locs (h.2.2.1 - c0) (h.2.2.2 - n0) Q (F0 m pc L st) := by
  obtain ⟨hx, hb, hr, hml, hown, hts, hlk, hnm, htab, hfr, hlo⟩ := hF
  simp only [q_stepI, q_nx] at hs
  split at hs
  · split at hs
    · rename_i hr2
      obtain ⟨t, ht, rfl⟩ := q_go_some hs
      exact lv_tableOut hx hb hd hr2 ht (kk H locs L hH hS hL)
    · rename_i hr2
      split at hs
      · rename_i off hoff
        obtain ⟨t, ht, rfl⟩ := q_go_some hs
        exact lv_tableIn hx hb hd (fun z => hr2 (Or.inl z)) (fun z => hr2 (Or.inr z)) hoff ht (kk H locs L hH hS hL)
      · cases hs
  · cases hs
end QN
