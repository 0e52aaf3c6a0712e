/-! the abstract machine's instructions that make things, copy them, read statics -/
theorem q_stf_ok : ∀ o, o < 17 → ∀ x ∈ q_stf o, x.2.1 < 6 ∧ (lw_tbl[x.2.2]? = some (.fieldLink (q_nm o) x.1 (q_sc x.2.1).1 (q_sc x.2.1).2.1 (q_sc x.2.1).2.2) ∨ lw_tbl[x.2.2]? = some (.fieldLinkNest (q_nm o) x.1 (q_sc x.2.1).1 (q_sc x.2.1).2.1 (q_sc x.2.1).2.2 "RobotAisles")) := by decide +kernel
theorem q_sys : Cond.native arraycopyName ∈ lw_tbl ∧ Cond.static arraycopyName ∈ lw_tbl ∧ Cond.initialized "java/lang/System" ∈ lw_tbl ∧ Cond.instanceMethod objectInit ∈ lw_tbl ∧ Cond.code objectInit ⟨#[0xb1]⟩ 1 none ∈ lw_tbl := by decide +kernel
theorem q_anw_ok : ∀ o, o < 10 → ∀ x ∈ q_anw o, lw_tbl[x.2.2.1]? = some (.classLink (q_nm o) x.1 (q_cnm (q_ec x.2.1))) ∧ 5 ≤ x.2.1 ∧ x.2.1 < 8 := by decide +kernel
theorem vr_outer (c : ClassId) (N h0 : Nat) : ∀ i : Nat, Jvm.Free.Multi.outerC c N h0 i = arrV c N (fun j => va_rf (if j < i then some (h0 + 1 + j) else none))
  | 0 => by
    show ({ cls := c, slots := Array.replicate N .null, vm := .none } : Cell) = _
    rw [arrV_new]
    refine congrArg (arrV c N) (funext fun j => ?_)
    simp [va_rf]
  | i + 1 => by
    show (Jvm.Free.Multi.outerC c N h0 i).setSlot i (.ref (h0 + 1 + i)) = _
    rw [vr_outer c N h0 i, arrV_store]
    refine congrArg (arrV c N) (funext fun j => ?_)
    by_cases e : j = i
    · subst e
      simp [updV, va_rf]
    · by_cases h : j < i
      · simp [updV, e, h, Nat.lt_succ_of_lt h]
      · simp [updV, e, h, show ¬ j < i + 1 by omega]
theorem q_mna_ok : ∀ o, o < 10 → ∀ x ∈ q_mna o, lw_tbl[x.2.1]? = some (.classLink (q_nm o) x.1 "[[I") := by decide +kernel
section QP
variable {p : Program} {l : Launch} {e : Env} {R : Room} {s s0 : State} {m : MethodId} {args : Array Value} {below : List Frame} {meth : Method} {c : Code} {H : Heap} {locs : List Loc} {Q : State → Prop} {cells slots : Nat} {rest : List Value}
variable {E : q_E} {D : va_G} {cid : Nat → ClassId} {M : q_M} {pc : Nat} {ls st : List Value} {h : q_H} {L : Array Slot} {f : q_F} {c0 n0 : Nat}
theorem q_copyW {cc : ByteArray} (hx : p.tables.exec = Jvm.exec) (hb : c.code = cc) (hml : c.maxLocals = L.size) {own : String} {index : Nat} (hown : s.vm.findClass own = some m.cls) (hlink : (Cond.methodLink own index arraycopyName).before args s = true) (hnat : (Cond.native arraycopyName).before args s = true) (hstat : (Cond.static arraycopyName).before args s = true) (hini : (Cond.initialized "java/lang/System").before args s = true)
    {a0 a : Nat} {cs cd : Cell} {ty : FieldType} (hs : H[a0]? = some cs) (hd : H[a]? = some cd) (hos : s.isArrayOf cs ty) (hod : s.isArrayOf cd ty) (hsk : cs.vm ≠ .unknown) (hdk : cd.vm ≠ .unknown) (hprim : refKind ty = false)
    {sp dp n : Int32} (h1 : ¬ sp < 0) (h2 : ¬ dp < 0) (h3 : ¬ n < 0) (h4 : sp.toNatClampNeg + n.toNatClampNeg ≤ cs.slots.size) (h5 : dp.toNatClampNeg + n.toNatClampNeg ≤ cd.slots.size)
    (hvals : ∀ i, i < n.toNatClampNeg → fits ty (cs.slots.getD (sp.toNatClampNeg + i) .null) = true ∧ ∀ (T : State) (k : ClassId), T.takes k (cs.slots.getD (sp.toNatClampNeg + i) .null))
    (hframes : 1 ≤ R.frames) (hlocals : (rest.map fun v => v.category).sum + (nativeFrameWords "java/lang/System" "arraycopy" 5 + 11) ≤ R.locals) (hdg : decode cc pc = .ok (.invokestatic index, 3))
    (kk : ∀ (H1 : Heap) (locs1 : List Loc), H1[a]? = some (copied cs cd sp dp n) → H1.size = H.size → (∀ q : Nat, q ≠ a → H1[q]? = H[q]?) → (∀ z ∈ locs1, z ∈ locs ∨ z.base = a) → W p l e R s m args below meth c H1 locs1 cells slots Q (F0 m (pc + 3) L rest)) :
    W p l e R s m args below meth c H locs cells slots Q (F0 m pc L (.int n :: .int dp :: .ref a :: .int sp :: .ref a0 :: rest)) := by
  have nn : ∀ z : Int32, ¬ z < 0 → z.toInt = (z.toNatClampNeg : Int) := by
    intro z hz
    have hz0 : (0 : Int) ≤ z.toInt := by
      have := Int32.not_lt.mp hz
      simpa using Int32.le_iff_toInt_le.mp this
    show z.toInt = ((z.toInt.toNat : Nat) : Int)
    omega
  intro T hT X
  obtain ⟨hoc, k0, hk0, cm0, hkk0⟩ := hos
  obtain ⟨hod2, k1, hk1, cm1, hkk1⟩ := hod
  obtain ⟨vm', X', step⟩ := X.arraycopy hx hown hlink hnat hstat hini (src := a0) (dst := a) (cs := cs) (cd := cd) (srcPos := sp) (destPos := dp) (n := n) (by rw [hT]; exact hs) (by rw [hT]; exact hd)
    hoc hod2 hsk hdk hk0 hk1 hkk0 hkk1 (by simp [hprim]) h1 h2 h3
    (by rw [nn sp h1, nn n h3]; omega) (by rw [nn dp h2, nn n h3]; omega)
    (fun vm₁ _ i hi => ⟨(hvals i hi).1, (hvals i hi).2 _ _⟩)
    (g := F0 m pc L (.int n :: .int dp :: .ref a :: .int sp :: .ref a0 :: rest)) rfl (by rw [hml]) (rest := rest) rfl (by rw [hb]; exact hdg) hframes (by show 2 * 0 + _ + _ ≤ _; omega)
  have hl : a < H.size := (Array.getElem?_eq_some_iff.mp hd).1
  obtain ⟨t, b1, b2⟩ := kk ((T.setVm vm').setCell a (copied cs cd sp dp n)).heap _ (by
      show (T.heap.setIfInBounds a _)[a]? = _
      rw [hT, Array.getElem?_setIfInBounds_self_of_lt hl]) (by
      show (T.heap.setIfInBounds a _).size = _
      rw [hT]; simp) (fun q hq => by
      show (T.heap.setIfInBounds a _)[q]? = _
      rw [hT, Array.getElem?_setIfInBounds_ne (Ne.symm hq)]) (fun z hz => by
      rcases List.mem_append.mp hz with h | h
      · exact Or.inl h
      · obtain ⟨q, -, rfl⟩ := List.mem_map.mp h
        exact Or.inr rfl) _ rfl X'
  exact ⟨t, step t b1, b2⟩
theorem q_S_at {a : Nat} {H1 : Heap} {locs1 : List Loc} (hS : va_S (q_A s0) s.heap H locs) (hz : H1.size = H.size) (ho : ∀ q : Nat, q ≠ a → H1[q]? = H[q]?) (ha : s0.heap.size ≤ a) (hl : ∀ z ∈ locs1, z ∈ locs ∨ z.base = a) : va_S (q_A s0) s.heap H1 locs1 :=
  ⟨by rw [hz]; exact hS.1, fun q h1 h2 => by rw [ho q (fun e => h2 (by rw [e]; exact ha))]; exact hS.2.1 q h1 h2, fun z hz2 => by
    rcases hl z hz2 with h | h
    · exact hS.2.2 z h
    · rw [h]; exact ha⟩
theorem q_S_new {H1 : Heap} (hS : va_S (q_A s0) s.heap H locs) (hz : H1.size = H.size + 1) (ho : ∀ q : Nat, q < H.size → H1[q]? = H[q]?) : va_S (q_A s0) s.heap H1 locs :=
  ⟨by rw [hz]; exact Nat.le_succ_of_le hS.1, fun q h1 h2 => by rw [ho q (Nat.lt_of_lt_of_le h1 hS.1)]; exact hS.2.1 q h1 h2, hS.2.2⟩
theorem q_AOA (hG : q_G E D cid s0) (hY : q_Y s0 s) : (Cond.arrayOver (.array .int)).before args s = true := by
  have h := hG.2.2.2.2.2.2.1
  have hvm := hY.1.alike
  obtain ⟨comp, c, k, h1, h2, h3, h4, h5⟩ := arrayOverA_spec h
  obtain ⟨k', hk', he⟩ := hvm.2.2 _ _ h3
  have hi : (s.vm.classes.findIdx? fun (x : Class) => match x.kind with | .array component _ => component == comp | _ => false) = some c := by
    have e1 := va_idx_bare s.vm comp
    have e2 := va_idx_bare s0.vm comp
    have e3 : s0.vm.bare = s.vm.bare := by first | exact hvm.bare_eq | exact hvm.bare_eq.symm
    rw [e3] at e2
    exact e1.symm.trans (e2.trans h2)
  have hkind : k'.kind = .array comp (.array .int) := by rw [he]; exact h4
  have f1 : s.vm.findClass (FieldType.array .int).toString = some comp := by rw [hvm.findClass]; exact h1
  have f2 : s.vm.findClass ("[" ++ (FieldType.array .int).toString) = some c := by rw [hvm.findClass]; exact h5
  unfold Cond.before Cond.holds
  simp only [Cond.value]
  rw [f1, Option.bind_some]
  refine (congrArg (fun o : Option Nat => (o.bind (fun c => (s.vm.classes[c]?).map fun (k : Class) => match k.kind with | .array _ ty => decide (ty = FieldType.array .int) && decide (s.vm.findClass ("[" ++ (FieldType.array .int).toString) = some c) | _ => false) == some true)) hi).trans ?_
  simp [hk', hkind, f2]
theorem q_b0 (hY : q_Y s0 s) (hS : va_S (q_A s0) s.heap H locs) : s0.heap.size ≤ H.size := Nat.le_trans hY.2.1 hS.1

theorem q_n_getstatic {ix : Nat} (hF : q_Fx p s m args meth c R M) (hG : q_G E D cid s0) (hY : q_Y s0 s) {len : Nat} (hd : decode M.2.1 pc = .ok (.getstatic ix, len)) (hs : q_stepI E M (.getstatic ix) len pc ls st h = some (.inl f)) (hbd : c0 ≤ h.2.2.1 ∧ n0 ≤ h.2.2.2 ∧ f.2.2.2.2.2.1 - c0 ≤ R.cells ∧ f.2.2.2.2.2.2 - n0 ≤ R.slots) (hH : q_hp D cid s0.heap.size h H) (hS : va_S (q_A s0) s.heap H locs) (hL : q_L L M.2.2.1 ls) (kk : ∀ (H1 : Heap) (locs1 : List Loc) (L1 : Array Slot), q_hp D cid s0.heap.size f.2.2.2 H1 → va_S (q_A s0) s.heap H1 locs1 → q_L L1 M.2.2.1 f.2.1 → W p l e R s m args below meth c H1 locs1 (f.2.2.2.2.2.1 - c0) (f.2.2.2.2.2.2 - n0) Q (F0 m f.1 L1 f.2.2.1)) : W p l e R s m args below meth c H locs (h.2.2.1 - c0) (h.2.2.2 - n0) Q (F0 m pc L st) := by
  obtain ⟨hx, hb, hr, hml, hown, hts, hlk, hnm, htab, hfr, hlo⟩ := hF
  simp only [q_stepI, q_nx] at hs
  split at hs
  · rename_i j pos hq
    split at hs
    · rename_i v hv
      split at hs
      · rename_i hlen
        obtain ⟨hlen, ho⟩ := hlen
        subst hlen
        cases hs
        obtain ⟨w1, w2⟩ := q_stf_ok _ ho _ (q_lk_mem hq)
        dsimp only at w1 w2
        rcases w2 with w2 | w2
        · exact va_gets hx hb (q_Zat hG hY hv w1) hS hown (q_word hts w2 rfl) (fun x h => h) hd (kk H locs L hH hS hL)
        · have w3 := hG.2.2.2.2.1 _ (List.mem_of_getElem? w2) rfl
          exact va_getsN hx hb (q_Zat hG hY hv w1) hS hown (va_Nw.use rfl (va_Nw.warmF hY.1 w3)) (fun x h => h) hd (kk H locs L hH hS hL)
      · cases hs
    · cases hs
  · cases hs
theorem q_n_newarray {ty : ArrayType} (hF : q_Fx p s m args meth c R M) (hG : q_G E D cid s0) (hY : q_Y s0 s) {len : Nat} (hd : decode M.2.1 pc = .ok (.newarray ty, len)) (hs : q_stepI E M (.newarray ty) len pc ls st h = some (.inl f)) (hbd : c0 ≤ h.2.2.1 ∧ n0 ≤ h.2.2.2 ∧ f.2.2.2.2.2.1 - c0 ≤ R.cells ∧ f.2.2.2.2.2.2 - n0 ≤ R.slots) (hH : q_hp D cid s0.heap.size h H) (hS : va_S (q_A s0) s.heap H locs) (hL : q_L L M.2.2.1 ls) (kk : ∀ (H1 : Heap) (locs1 : List Loc) (L1 : Array Slot), q_hp D cid s0.heap.size f.2.2.2 H1 → va_S (q_A s0) s.heap H1 locs1 → q_L L1 M.2.2.1 f.2.1 → W p l e R s m args below meth c H1 locs1 (f.2.2.2.2.2.1 - c0) (f.2.2.2.2.2.2 - n0) Q (F0 m f.1 L1 f.2.2.1)) : W p l e R s m args below meth c H locs (h.2.2.1 - c0) (h.2.2.2 - n0) Q (F0 m pc L st) := by
  obtain ⟨hx, hb, hr, hml, hown, hts, hlk, hnm, htab, hfr, hlo⟩ := hF
  simp only [q_stepI, q_nx] at hs
  split at hs
  · rename_i n st1 a t ft ha hna
    split at hs
    · rename_i hlen
      obtain ⟨hlen, hn, hbig⟩ := hlen
      subst hlen
      cases hs
      have hsz := hH.1 a ha
      have htt : t < 5 ∧ q_at t = newarray.typeOf ty ∧ (∀ k : ClassId, arrV k n.toNatClampNeg (fun _ => defaultValue (newarray.typeOf ty)) = vp_cell k (n.toNatClampNeg, q_z t)) ∧ n.toNatClampNeg * componentBytes (newarray.typeOf ty) ≤ 536870912 := by
        cases ty <;> simp only [q_na, Option.some.injEq, Prod.mk.injEq, reduceCtorEq] at hna <;> obtain ⟨rfl, rfl⟩ := hna <;> exact ⟨by decide, rfl, fun k => rfl, by simp only [newarray.typeOf, componentBytes]; omega⟩
      obtain ⟨ht5, hty, hcell, hby⟩ := htt
      refine va_newaK hx hb (hts _ (by have := q_ac t ht5; rw [hty] at this; exact this) rfl) rfl hd rfl hn rfl hby (by have := hbd.2.2.1; dsimp only [q_al] at this; omega) (by have := hbd.2.2.2; dsimp only [q_al] at this; omega) hsz (fun H1 cA e1 e2 e3 e4 e5 => ?_)
      have hcA : cA = cid t := by
        have h6 := ((q_K hG hY).2 t _ (q_tys_at cid t (by omega))).2
        rw [hty] at h6
        have h7 : s.vm.findClass ("[" ++ (newarray.typeOf ty).toString) = some (cid t) := by
          cases ty <;> exact h6
        exact Option.some.inj (e5.symm.trans h7)
      subst hcA
      rw [show h.2.2.1 - c0 + 1 = h.2.2.1 + 1 - c0 by omega, show h.2.2.2 - n0 + n.toNatClampNeg = h.2.2.2 + n.toNatClampNeg - n0 by omega]
      refine kk H1 locs L (q_hp_new hH hsz e2 (hsz ▸ q_b0 hY hS) e3 ?_) (q_S_new hS (by rw [hsz]; exact e2) (by rw [hsz]; exact e3)) hL
      show H1[a]? = some (vp_cell (cid t) _)
      rw [e1, hcell]
    · cases hs
  · cases hs
theorem q_n_multianewarray {ix d : Nat} (hF : q_Fx p s m args meth c R M) (hG : q_G E D cid s0) (hY : q_Y s0 s) {len : Nat} (hd : decode M.2.1 pc = .ok (.multianewarray ix d, len)) (hs : q_stepI E M (.multianewarray ix d) len pc ls st h = some (.inl f)) (hbd : c0 ≤ h.2.2.1 ∧ n0 ≤ h.2.2.2 ∧ f.2.2.2.2.2.1 - c0 ≤ R.cells ∧ f.2.2.2.2.2.2 - n0 ≤ R.slots) (hH : q_hp D cid s0.heap.size h H) (hS : va_S (q_A s0) s.heap H locs) (hL : q_L L M.2.2.1 ls) (kk : ∀ (H1 : Heap) (locs1 : List Loc) (L1 : Array Slot), q_hp D cid s0.heap.size f.2.2.2 H1 → va_S (q_A s0) s.heap H1 locs1 → q_L L1 M.2.2.1 f.2.1 → W p l e R s m args below meth c H1 locs1 (f.2.2.2.2.2.1 - c0) (f.2.2.2.2.2.2 - n0) Q (F0 m f.1 L1 f.2.2.1)) : W p l e R s m args below meth c H locs (h.2.2.1 - c0) (h.2.2.2 - n0) Q (F0 m pc L st) := by
  obtain ⟨hx, hb, hr, hml, hown, hts, hlk, hnm, htab, hfr, hlo⟩ := hF
  simp only [q_stepI, q_nx] at hs
  split at hs
  · rename_i k n st1 a ps ha hq
    split at hs
    · rename_i hlen
      obtain ⟨⟨⟨hlen, ho⟩, hd2⟩, ⟨hn, hk⟩, hn1, hk1⟩ := hlen
      subst hlen; subst hd2
      cases hs
      have hsz := hH.1 a ha
      subst hsz
      have hKs := q_K hG hY
      have hov : (Cond.arrayOver (.array .int)).before args s = true := q_AOA hG hY
      have hb3 := hbd.2.2.1
      have hb4 := hbd.2.2.2
      dsimp only [q_alm] at hb3 hb4
      intro T hT X
      obtain ⟨vm₁, cA, comp, -, fA, fC, hO, -, X', step⟩ := X.multianewarray2F hx hown (ty := .int) (q_word hts (q_mna_ok _ ho _ (q_lk_mem hq)) rfl) hov (hts _ (q_ac 0 (by decide)) rfl) (g := F0 m pc L (.int k :: .int n :: st1)) rfl (by rw [hb]; exact hd) rfl hn hk (by omega) (by simp only [componentBytes]; omega) (by omega) rfl rfl (by omega) (by omega)
      have h0 : s.vm.findClass ("[" ++ (FieldType.int).toString) = some (cid 0) := (hKs.2 0 _ (q_tys_at cid 0 (by decide))).2
      have h8 : s.vm.findClass ("[" ++ (FieldType.array .int).toString) = some (cid 8) := (hKs.2 8 _ (q_tys_at cid 8 (by decide))).2
      have ec : comp = cid 0 := Option.some.inj (fC.symm.trans h0)
      have ec8 : cA = cid 8 := Option.some.inj (fA.symm.trans h8)
      subst ec; subst ec8
      generalize hFF : Jvm.Free.Multi.fill (T.setVm vm₁) (cid 8) (cid 0) n.toNatClampNeg k.toNatClampNeg (defaultValue .int) n.toNatClampNeg = F at X' step
      have hTh : (T.setVm vm₁).heap = H := hT
      obtain ⟨f1, f2, -, -⟩ := Jvm.Free.Multi.fill_facts (T.setVm vm₁) (cid 8) (cid 0) n.toNatClampNeg k.toNatClampNeg (defaultValue .int) n.toNatClampNeg
      rw [hFF, hTh] at f1 f2
      have hold : ∀ x : Nat, x < H.size → F.heap[x]? = H[x]? := fun x hx => by
        have := Jvm.Free.Multi.fill_old (T.setVm vm₁) (cid 8) (cid 0) n.toNatClampNeg k.toNatClampNeg (defaultValue .int) (a := x) (by rw [hTh]; exact hx) n.toNatClampNeg
        rw [hFF, hTh] at this
        exact this
      have hrow : ∀ j : Nat, j < n.toNatClampNeg → F.heap[H.size + 1 + j]? = some (vp_cell (cid 0) (k.toNatClampNeg, .inl fun _ => 0)) := fun j hj => by
        have := Jvm.Free.Multi.fill_inner (T.setVm vm₁) (cid 8) (cid 0) n.toNatClampNeg k.toNatClampNeg (defaultValue .int) n.toNatClampNeg j hj
        rw [hFF, hTh] at this
        rw [this, vp_cell_i]
        exact congrArg some (arrV_new _ _ _)
      have hout : Jvm.Free.Multi.outerC (cid 8) n.toNatClampNeg H.size n.toNatClampNeg = vp_cell (cid 8) (n.toNatClampNeg, .inr (.inr (.inr (.inr (fun i => if i < n.toNatClampNeg then some (H.size + 1 + i) else none))))) := by
        rw [vp_cell_q]
        exact vr_outer (cid 8) n.toNatClampNeg H.size n.toNatClampNeg
      rw [hout] at f2
      have hp2 : q_hp D cid s0.heap.size (q_alm h H.size n.toNatClampNeg k.toNatClampNeg) F.heap := by
        refine ⟨fun t ht => by cases ht; rw [f1], fun b e hb2 => ?_⟩
        have hb2 : (if b = H.size then some (.inl (8, n.toNatClampNeg, .inr (.inr (.inr (.inr fun i => if i < n.toNatClampNeg then some (H.size + 1 + i) else none))))) else if H.size < b ∧ b ≤ H.size + n.toNatClampNeg then some (.inl (0, k.toNatClampNeg, .inl fun _ => 0)) else h.1 b) = some e := hb2
        by_cases e1 : b = H.size
        · subst e1
          rw [if_pos rfl] at hb2
          cases hb2
          exact ⟨q_b0 hY hS, f2⟩
        · rw [if_neg e1] at hb2
          by_cases e2 : H.size < b ∧ b ≤ H.size + n.toNatClampNeg
          · rw [if_pos e2] at hb2
            cases hb2
            refine ⟨Nat.le_trans (q_b0 hY hS) (Nat.le_of_lt e2.1), ?_⟩
            have := hrow (b - (H.size + 1)) (by omega)
            rw [show H.size + 1 + (b - (H.size + 1)) = b by omega] at this
            exact this
          · rw [if_neg e2] at hb2
            have hk9 := hH.2 b e hb2
            exact ⟨hk9.1, hk9.2.kept (hold b hk9.2.lt)⟩
      have hS2 : va_S (q_A s0) s.heap F.heap locs := ⟨by rw [f1]; have := hS.1; omega, fun x h1 h2 => (hold x (Nat.lt_of_lt_of_le h1 hS.1)).trans (hS.2.1 x h1 h2), hS.2.2⟩
      have k9 := kk F.heap locs L hp2 hS2 hL
      dsimp only [q_alm] at k9
      rw [show h.2.2.1 + 1 + n.toNatClampNeg - c0 = h.2.2.1 - c0 + 1 + n.toNatClampNeg by omega, show h.2.2.2 + n.toNatClampNeg + n.toNatClampNeg * k.toNatClampNeg - n0 = h.2.2.2 - n0 + n.toNatClampNeg + n.toNatClampNeg * k.toNatClampNeg by omega] at k9
      obtain ⟨t, a1, b1⟩ := k9 F rfl X'
      refine ⟨t, step t ?_, b1⟩
      have e : T.heap.size = H.size := by rw [hT]
      rw [e]
      exact a1
    · cases hs
  · cases hs
theorem q_n_anewarray {ix : Nat} (hF : q_Fx p s m args meth c R M) (hG : q_G E D cid s0) (hY : q_Y s0 s) {len : Nat} (hd : decode M.2.1 pc = .ok (.anewarray ix, len)) (hs : q_stepI E M (.anewarray ix) len pc ls st h = some (.inl f)) (hbd : c0 ≤ h.2.2.1 ∧ n0 ≤ h.2.2.2 ∧ f.2.2.2.2.2.1 - c0 ≤ R.cells ∧ f.2.2.2.2.2.2 - n0 ≤ R.slots) (hH : q_hp D cid s0.heap.size h H) (hS : va_S (q_A s0) s.heap H locs) (hL : q_L L M.2.2.1 ls) (kk : ∀ (H1 : Heap) (locs1 : List Loc) (L1 : Array Slot), q_hp D cid s0.heap.size f.2.2.2 H1 → va_S (q_A s0) s.heap H1 locs1 → q_L L1 M.2.2.1 f.2.1 → W p l e R s m args below meth c H1 locs1 (f.2.2.2.2.2.1 - c0) (f.2.2.2.2.2.2 - n0) Q (F0 m f.1 L1 f.2.2.1)) : W p l e R s m args below meth c H locs (h.2.2.1 - c0) (h.2.2.2 - n0) Q (F0 m pc L st) := by
  obtain ⟨hx, hb, hr, hml, hown, hts, hlk, hnm, htab, hfr, hlo⟩ := hF
  simp only [q_stepI, q_nx] at hs
  split at hs
  · rename_i n st1 a t pos pos2 ha hq
    split at hs
    · rename_i hlen
      obtain ⟨⟨hlen, ho⟩, hn, hbig⟩ := hlen
      subst hlen
      cases hs
      have hsz := hH.1 a ha
      obtain ⟨w1, w2, w3⟩ := q_anw_ok _ ho _ (q_lk_mem hq)
      dsimp only at w1 w2 w3
      have hto : q_at t = .object (q_cnm (q_ec t)) := by
        match t, w2, w3 with
        | 5, _, _ => rfl
        | 6, _, _ => rfl
        | 7, _, _ => rfl
      have hK := q_K hG hY
      have hov : va_AO (q_cnm (q_ec t)) s := va_AO.moved hY.1.alike (va_AO.of (A := #[]) (by rw [← hto]; exact hG.2.2.2.2.2.1 t w2 w3))
      refine W.anew hx hb hown (q_word hts w1 rfl) (va_AO.use hov) rfl hd rfl hn (by omega) (by have := hbd.2.2.1; dsimp only [q_al] at this; omega) (by have := hbd.2.2.2; dsimp only [q_al] at this; omega) (fun cA kA comp e1 e2 e3 e4 => ?_)
      have hcA : cA = cid t := by
        have h6 := (hK.2 t _ (q_tys_at cid t (by omega))).2
        rw [hto] at h6
        obtain ⟨kA2, comp2, g1, g2, g3, g4⟩ := h6
        exact Option.some.inj (e1.symm.trans g4)
      subst hcA
      subst hsz
      rw [show h.2.2.1 - c0 + 1 = h.2.2.1 + 1 - c0 by omega, show h.2.2.2 - n0 + n.toNatClampNeg = h.2.2.2 + n.toNatClampNeg - n0 by omega]
      have ho2 : ∀ (x : Cell) (q : Nat), q < H.size → (H.push x)[q]? = H[q]? := fun x q hq => by rw [Array.getElem?_push_lt hq, Array.getElem?_eq_getElem hq]
      refine kk _ locs L (q_hp_new hH rfl (Array.size_push ..) (q_b0 hY hS) (ho2 _) ?_) (q_S_new hS (Array.size_push ..) (ho2 _)) hL
      show (H.push _)[H.size]? = some (vp_cell (cid t) (n.toNatClampNeg, .inr (.inr (.inr (.inr fun _ => none)))))
      rw [Array.getElem?_push_size, vp_cell_q]
      exact congrArg some (arrV_new _ _ _)
    · cases hs
  · cases hs
theorem q_n_new {ix : Nat} (hF : q_Fx p s m args meth c R M) (hG : q_G E D cid s0) (hY : q_Y s0 s) {len : Nat} (hd : decode M.2.1 pc = .ok (.new ix, len)) (hs : q_stepI E M (.new ix) len pc ls st h = some (.inl f)) (hbd : c0 ≤ h.2.2.1 ∧ n0 ≤ h.2.2.2 ∧ f.2.2.2.2.2.1 - c0 ≤ R.cells ∧ f.2.2.2.2.2.2 - n0 ≤ R.slots) (hH : q_hp D cid s0.heap.size h H) (hS : va_S (q_A s0) s.heap H locs) (hL : q_L L M.2.2.1 ls) (kk : ∀ (H1 : Heap) (locs1 : List Loc) (L1 : Array Slot), q_hp D cid s0.heap.size f.2.2.2 H1 → va_S (q_A s0) s.heap H1 locs1 → q_L L1 M.2.2.1 f.2.1 → W p l e R s m args below meth c H1 locs1 (f.2.2.2.2.2.1 - c0) (f.2.2.2.2.2.2 - n0) Q (F0 m f.1 L1 f.2.2.1)) : W p l e R s m args below meth c H locs (h.2.2.1 - c0) (h.2.2.2 - n0) Q (F0 m pc L st) := by
  obtain ⟨hx, hb, hr, hml, hown, hts, hlk, hnm, htab, hfr, hlo⟩ := hF
  simp only [q_stepI, q_nx] at hs
  split at hs
  · rename_i ci p1 p2 p3 hq
    split at hs
    · rename_i a ha
      split at hs
      · rename_i hlen
        obtain ⟨hlen, ho⟩ := hlen
        subst hlen
        cases hs
        have hsz := hH.1 a ha
        obtain ⟨w1, w2, w3, w4⟩ := q_new_ok _ ho _ (q_lk_mem hq)
        dsimp only at w1 w2 w3 w4
        have hK := q_K hG hY
        refine W.newc hx hb hown (q_word hts w1 rfl) (q_word hts w2 rfl) (q_word hts w3 rfl) rfl hd (by have := hbd.2.2.1; dsimp only [q_al] at this; omega) (by have := hbd.2.2.2; dsimp only [q_al] at this; omega) (fun cC kC e1 e2 e3 e4 => ?_)
        have hkn := hK.1 ci _ (q_cls_ok ci w4)
        have hcC : cC = D.1 ci := Option.some.inj (e1.symm.trans hkn.2.1)
        subst hcC
        subst hsz
        rw [show h.2.2.1 - c0 + 1 = h.2.2.1 + 1 - c0 by omega, show h.2.2.2 - n0 + q_N ci = h.2.2.2 + q_N ci - n0 by omega]
        have ho2 : ∀ (x : Cell) (q : Nat), q < H.size → (H.push x)[q]? = H[q]? := fun x q hq => by rw [Array.getElem?_push_lt hq, Array.getElem?_eq_getElem hq]
        refine kk _ locs L (q_hp_new hH rfl (Array.size_push ..) (q_b0 hY hS) (ho2 _) ?_) (q_S_new hS (Array.size_push ..) (ho2 _)) hL
        refine ⟨_, q_cls_ok ci w4, t_OB.to (u_born (q_ty ci) (q_uw (c := ci) w4 hts) (fun w h => h) hkn e2 (by rw [Array.getElem?_push_size]; rfl) (q_ty_ok ci w4)) (fun k hk => ?_)⟩
        simp [vp_V, q_df, hk]
      · cases hs
    · cases hs
  · split at hs
    · split at hs
      · cases hs
      · cases hs
    · cases hs
theorem q_n_aastore (hF : q_Fx p s m args meth c R M) (hG : q_G E D cid s0) (hY : q_Y s0 s) {len : Nat} (hd : decode M.2.1 pc = .ok (.aastore, len)) (hs : q_stepI E M (.aastore) len pc ls st h = some (.inl f)) (hbd : c0 ≤ h.2.2.1 ∧ n0 ≤ h.2.2.2 ∧ f.2.2.2.2.2.1 - c0 ≤ R.cells ∧ f.2.2.2.2.2.2 - n0 ≤ R.slots) (hH : q_hp D cid s0.heap.size h H) (hS : va_S (q_A s0) s.heap H locs) (hL : q_L L M.2.2.1 ls) (kk : ∀ (H1 : Heap) (locs1 : List Loc) (L1 : Array Slot), q_hp D cid s0.heap.size f.2.2.2 H1 → va_S (q_A s0) s.heap H1 locs1 → q_L L1 M.2.2.1 f.2.1 → W p l e R s m args below meth c H1 locs1 (f.2.2.2.2.2.1 - c0) (f.2.2.2.2.2.2 - n0) Q (F0 m f.1 L1 f.2.2.1)) : W p l e R s m args below meth c H locs (h.2.2.1 - c0) (h.2.2.2 - n0) Q (F0 m pc L st) := by
  obtain ⟨hx, hb, hr, hml, hown, hts, hlk, hnm, htab, hfr, hlo⟩ := hF
  simp only [q_stepI, q_nx] at hs
  split at hs
  · rename_i v i a st1
    split at hs
    · rename_i h1 hv
      split at hs
      · rename_i hlen
        subst hlen
        cases hs
        obtain ⟨t, n, g, fs, hc1, hc2, ht, hin, rfl⟩ := q_sQ_some hv
        have hK := q_K hG hY
        have hto : q_at t = .object (q_cnm (q_ec t)) ∧ q_ec t < 10 := by
          match t, ht with
          | 5, _ => exact ⟨rfl, by decide⟩
          | 6, _ => exact ⟨rfl, by decide⟩
          | 7, _ => exact ⟨rfl, by decide⟩
        obtain ⟨hto, hec⟩ := hto
        have hcell : H[a]? = some (vp_cell (cid t) (n, .inr (.inr (.inr (.inr g))))) := q_cell hH hc1
        obtain ⟨-, r, h1r, cell, g1, g2, g3, g4⟩ := hH.2 v _ hc2
        have hcl := q_cls_ok (q_ec t) hec
        have hcls := (hK.1 _ _ hcl).2
        have h6 := (hK.2 t _ (q_tys_at cid t (Nat.lt_of_le_of_lt ht.2 (by decide)))).2
        rw [hto] at h6
        obtain ⟨kA, comp, k1, k2, k3, -⟩ := h6
        have hcomp : comp = D.1 (q_ec t) := Option.some.inj (k3.symm.trans hcls.1)
        subst hcomp
        obtain ⟨kC, hkC, -⟩ := hcls.2
        have hlt : i.toNatClampNeg < n := Nat.not_le.mp fun q => hin (Or.inr q)
        refine W.aast hx hb hcell (fun q h => by cases h) (fun h => by cases h) k1 k2 rfl hkC ⟨fun z => hin (Or.inl z), by show _ < (arrV _ _ _).slots.size; rw [arrV_size]; exact hlt⟩ g1 (fun q h => by rw [g3] at h; cases h) (by rw [g2]; exact hkC) (by rw [g2]; exact va_assign hcls) rfl rfl hd fun H1 e1 e2 e3 => ?_
        refine kk H1 _ L (q_hp_put hH e2 (hH.2 a _ hc1).1 e3 ?_) (hS.put e2 e3 (hH.2 a _ hc1).1) hL
        show H1[a]? = some (vp_cell _ _)
        rw [e1]
        rw [vp_cell_q, vp_cell_q, arrV_store]
        congr 2
        funext q
        by_cases hq : q = i.toNatClampNeg
        · subst hq
          simp [updV, va_up, va_rf]
        · simp [updV, va_up, hq]
      · cases hs
    · cases hs
  · cases hs
end QP
