/-! copies, Math, Object's constructor: and all instructions that go on in the same frame -/
section QQ
variable {p : Program} {l : Launch} {e : Env} {R : Room} {s s0 : State} {m : MethodId} {args : Array Value} {below : List Frame} {meth : Method} {c : Code} {H : Heap} {locs : List Loc} {Q : State → Prop} {cells slots : Nat} {rest : List Value}
variable {E : q_E} {D : va_G} {cid : Nat → ClassId} {M : q_M} {pc : Nat} {ls st : List Value} {h : q_H} {L : Array Slot} {f : q_F} {c0 n0 : Nat}
theorem q_call_inv {k n : Nat} {M' : q_M} {x : q_S} (hs : q_call E M k n M' st h = some x) : q_hgt M' < q_hgt M ∧ ∃ (j : Nat) (vs rest : List Value), x = .inr (.inl (M', j, vs, rest)) ∧ (q_exp vs).length ≤ M'.2.2.1 ∧ q_cat rest ≤ 8 ∧ (k = 0 → vs.length = n ∧ st = vs.reverse ++ rest) ∧
    (¬ k = 0 → ∃ (b : Nat) (ws : List Value), vs = .ref b :: ws ∧ ws.length = n ∧ st = ws.reverse ++ .ref b :: rest ∧ (k = 1 → (∃ fs, q_rc (q_own M') < 10 ∧ h.1 b = some (.inr (q_rc (q_own M'), fs))) ∨ (q_own M' = 12 ∧ (q_sx E b).isSome = true))) := by
  unfold q_call at hs
  split at hs
  · rename_i h1
    obtain ⟨h1, h2⟩ := h1
    have hlen : (st.take n).reverse.length = n := by simp; omega
    refine ⟨h1, ?_⟩
    split at hs
    · split at hs
      · rename_i h3
        cases hs
        refine ⟨0, _, _, rfl, h3.2, h3.1, fun _ => ⟨hlen, ?_⟩, fun h => absurd rfl h⟩
        rw [List.reverse_reverse, List.take_append_drop]
      · cases hs
    · rename_i k'
      split at hs
      · rename_i b rest hd
        have hst : st = (st.take n).reverse.reverse ++ .ref b :: rest := by rw [List.reverse_reverse, ← hd, List.take_append_drop]
        split at hs
        · rename_i h3
          split at hs
          · split at hs
            · rename_i ci fs hb
              split at hs
              · rename_i h4
                obtain ⟨h4, h5⟩ := h4
                subst h4
                cases hs
                exact ⟨1, _, _, rfl, h3.2, h3.1, fun h => absurd h (by omega), fun _ => ⟨b, _, rfl, hlen, hst, fun _ => Or.inl ⟨fs, h5, hb⟩⟩⟩
              · cases hs
            · split at hs
              · rename_i h4
                cases hs
                exact ⟨1, _, _, rfl, h3.2, h3.1, fun h => absurd h (by omega), fun _ => ⟨b, _, rfl, hlen, hst, fun _ => Or.inr h4⟩⟩
              · cases hs
            · cases hs
          · cases hs
            exact ⟨2, _, _, rfl, h3.2, h3.1, fun h => absurd h (by omega), fun _ => ⟨b, _, rfl, hlen, hst, fun h => absurd h (by omega)⟩⟩
        · cases hs
      · cases hs
  · cases hs
theorem q_call_no {k n : Nat} {M' : q_M} {f : q_F} (hs : q_call E M k n M' st h = some (.inl f)) : False := by
  obtain ⟨-, j, vs, rest, hx, -⟩ := q_call_inv hs
  cases hx
theorem q_callU_inv {n : Nat} {M' : q_M} {x : q_S} (hs : q_callU M n M' st h = some x) : q_hgt M' < q_hgt M ∧ ∃ (b : Nat) (ws rest fs : List Value), x = .inr (.inl (M', 2, .ref b :: ws, rest)) ∧ (q_exp (.ref b :: ws)).length ≤ M'.2.2.1 ∧ q_cat rest ≤ 8 ∧ ws.length = n ∧ st = ws.reverse ++ .ref b :: rest ∧ h.1 b = some (.inr (8, fs)) := by
  unfold q_callU at hs
  split at hs
  · rename_i h1
    obtain ⟨h1, h2⟩ := h1
    have hlen : (st.take n).reverse.length = n := by simp; omega
    refine ⟨h1, ?_⟩
    split at hs
    · rename_i b rest hd
      have hst : st = (st.take n).reverse.reverse ++ .ref b :: rest := by rw [List.reverse_reverse, ← hd, List.take_append_drop]
      split at hs
      · rename_i fs hb
        split at hs
        · rename_i h3
          cases hs
          exact ⟨b, _, _, fs, rfl, h3.2, h3.1, hlen, hst, hb⟩
        · cases hs
      · cases hs
    · cases hs
  · cases hs
theorem q_callU_no {n : Nat} {M' : q_M} {f : q_F} (hs : q_callU M n M' st h = some (.inl f)) : False := by
  obtain ⟨-, b, ws, rest, fs, hx, -⟩ := q_callU_inv hs
  cases hx
theorem q_clw : Cond.sameMethod "[B" "java/lang/Object" "clone" "()Ljava/lang/Object;" ∈ lw_tbl ∧ Cond.native ⟨"java/lang/Object", "clone", "()Ljava/lang/Object;"⟩ ∈ lw_tbl ∧ Cond.instanceMethod ⟨"java/lang/Object", "clone", "()Ljava/lang/Object;"⟩ ∈ lw_tbl ∧ Cond.selects "[B" ⟨"[B", "clone", "()Ljava/lang/Object;"⟩ ⟨"java/lang/Object", "clone", "()Ljava/lang/Object;"⟩ ∈ lw_tbl ∧ Cond.castable "[B" "java/lang/Cloneable" ∈ lw_tbl := by decide +kernel
theorem q_cloneK {cc : ByteArray} (hexec : p.tables.exec = Jvm.exec) (hb : c.code = cc) {ls : Array Slot} (hml : c.maxLocals = ls.size) {own : String} {index : Nat} (hown : s.vm.findClass own = some m.cls)
    (hlink : (Cond.methodLink own index ⟨"[B", "clone", "()Ljava/lang/Object;"⟩).before args s = true) (hsame : (Cond.sameMethod "[B" "java/lang/Object" "clone" "()Ljava/lang/Object;").before args s = true)
    (hnat : (Cond.native ⟨"java/lang/Object", "clone", "()Ljava/lang/Object;"⟩).before args s = true) (hinst : (Cond.instanceMethod ⟨"java/lang/Object", "clone", "()Ljava/lang/Object;"⟩).before args s = true)
    (hsel : (Cond.selects "[B" ⟨"[B", "clone", "()Ljava/lang/Object;"⟩ ⟨"java/lang/Object", "clone", "()Ljava/lang/Object;"⟩).before args s = true) (hcl : va_Nw (.castable "[B" "java/lang/Cloneable") s)
    {a n : Nat} {g : Nat → Int32} {cA : ClassId} (hA : ArrOfT s cA .byte) (hc : H[a]? = some (vp_cell cA (n, .inl g))) (hnm : s.vm.findClass "[B" = some cA) (hfit : ∀ i, i < n → fits .byte (.int (g i)) = true)
    (hframes : 1 ≤ R.frames) (hlocals : (rest.map fun v => v.category).sum + 14 ≤ R.locals) (hcells : cells + 1 ≤ R.cells) (hslots : slots + n ≤ R.slots) (hdg : decode cc pc = .ok (.invokevirtual index, 3))
    (kk : ∀ H1 : Heap, H1[H.size]? = some (vp_cell cA (n, .inl g)) → H1.size = H.size + 1 → (∀ q : Nat, q < H.size → H1[q]? = H[q]?) → W p l e R s m args below meth c H1 locs (cells + 1) (slots + n) Q (F0 m (pc + 3) ls (.ref H.size :: rest))) : W p l e R s m args below meth c H locs cells slots Q (F0 m pc ls (.ref a :: rest)) := by
  have hsz : (vp_cell cA (n, .inl g)).slots.size = n := arrV_size _ _ _
  obtain ⟨c0, t0', f1, f2, f3⟩ := Cond.castable_spec (va_Nw.use (A := args) rfl hcl)
  cases hnm.symm.trans f1
  intro T hT X
  have hcellT : T.heap[a]? = some (vp_cell cA (n, .inl g)) := by rw [hT]; exact hc
  obtain ⟨-, kA, hkA, comp, hkind⟩ := State.isArrayOf_alike X.warmed.alike (hA 0 (fun _ => .null))
  obtain ⟨-, kS, hkS, compS, hkindS⟩ := hA 0 (fun _ => .null)
  obtain ⟨vm', X', st⟩ := X.cloneArray hexec hown hlink hsame hnat hinst hsel (a := a) (cell := vp_cell cA (n, .inl g)) hcellT (fun k h => by cases h) (fun h => by cases h) hnm f2 f3
    (fun i v hv => by
      have hk' : T.vm.classes[cA]? = some kA := hkA
      have hin : i < n := by
        have := (Array.getElem?_eq_some_iff.mp hv).1
        rw [hsz] at this
        exact this
      have hv2 : v = .int (g i) := by
        have e : (vp_cell cA (n, .inl g)).slots[i]? = some (.int (g i)) := arrV_read _ _ hin
        exact Option.some.inj (hv.symm.trans e)
      subst hv2
      have := hfit i hin
      simpa [State.fitsSlot, State.slotType?, hk', hkind, vp_cell, arrV] using this)
    (g := F0 m pc ls (.ref a :: rest)) rfl (by rw [hml]) rfl (by rw [hb]; exact hdg) hframes (by show 2 * 0 + _ + 14 ≤ _; omega) hcells (by rw [hsz]; exact hslots) (hloader := Vm.clonesLoader_of_array hkS hkindS)
  have hcellE : ({ cls := (vp_cell cA (n, .inl g)).cls, slots := (vp_cell cA (n, .inl g)).slots } : Cell) = vp_cell cA (n, .inl g) := rfl
  rw [hcellE, hsz] at X'
  generalize hH1 : H.push (vp_cell cA (n, .inl g)) = H1
  have z1 : H1.size = H.size + 1 := by rw [← hH1, Array.size_push]
  have e1 : H1[H.size]? = some (vp_cell cA (n, .inl g)) := by rw [← hH1, Array.getElem?_push_size]
  have o1 : ∀ q : Nat, q < H.size → H1[q]? = H[q]? := fun q hq => by rw [← hH1, Array.getElem?_push, if_neg (Nat.ne_of_lt hq)]
  obtain ⟨t, b1, b2⟩ := kk H1 e1 z1 o1 ((T.setVm vm').pushCell (vp_cell cA (n, .inl g))) (by rw [← hH1, ← hT]; rfl) X'
  refine ⟨t, st t ?_, b2⟩
  rw [hcellE, hT]
  exact b1
theorem q_stretch {cs : Cell} {k0 : ClassId} {n0 sp n : Nat} {g : Nat → Int32} (hv : ∀ i, i < n → cs.slots.getD (sp + i) .null = .int (g (sp + i))) (hle : sp + n ≤ n0) : cs.stretch sp n = (arrV k0 n0 (fun j => .int (g j))).stretch sp n := by
  unfold Cell.stretch
  apply List.map_congr_left
  intro i hi
  have hi' := List.mem_range.mp hi
  rw [hv i hi', Array.getD_eq_getD_getElem?, arrV_read _ _ (by omega)]
  rfl
theorem q_cpy_ok (hF : q_Fx p s m args meth c R M) (hG : q_G E D cid s0) (hY : q_Y s0 s) (hH : q_hp D cid s0.heap.size h H) (hS : va_S (q_A s0) s.heap H locs) (hLs : L.size = c.maxLocals) (ho : q_own M < 17) (hg1 : 1 ≤ q_hgt M) {ix pos : Nat} (hq : q_lk (q_acp (q_own M)) ix = some pos) {a0 a : Nat} {sp dp n : Int32} {h' : q_H} (hv : q_cpy E h a0 sp a dp n = some h') (hcat : q_cat rest ≤ 8) (hd : decode M.2.1 pc = .ok (.invokestatic ix, 3))
    (kk : ∀ (H1 : Heap) (locs1 : List Loc), q_hp D cid s0.heap.size h' H1 → va_S (q_A s0) s.heap H1 locs1 → h'.2.2 = h.2.2 → W p l e R s m args below meth c H1 locs1 cells slots Q (F0 m (pc + 3) L rest)) :
    W p l e R s m args below meth c H locs cells slots Q (F0 m pc L (.int n :: .int dp :: .ref a :: .int sp :: .ref a0 :: rest)) := by
  obtain ⟨hx, hb, hr, hml, hown, hts, hlk, hnm, htab, hfr, hlo⟩ := hF
  have hK := q_K hG hY
  have hw := q_word (s := s) (args := args) hts (q_acp_ok _ ho _ (q_lk_mem hq)) rfl
  have hroom : (rest.map fun v => v.category).sum + (nativeFrameWords "java/lang/System" "arraycopy" 5 + 11) ≤ R.locals := by
    have h8 : (rest.map fun v => v.category).sum ≤ 8 := hcat
    have : nativeFrameWords "java/lang/System" "arraycopy" 5 ≤ 40 := by decide +kernel
    omega
  unfold q_cpy at hv
  split at hv
  · rename_i t0 n1 g1 t1 n2 g2 ha0 ha
    split at hv
    · rename_i hc
      obtain ⟨⟨e1, e2⟩, ⟨⟨h1, h2, h3⟩, h4, h5⟩, hz, hz4⟩ := hc
      subst e1
      cases hv
      have ht9 : t0 < 9 := by rcases e2 with h | h | h <;> rw [h] <;> decide
      have hc0 := q_cell hH ha0
      have hc1 := q_cell hH ha
      have hA := (hK.2 t0 _ (q_tys_at cid t0 ht9)).1
      refine q_copyW hx hb (hLs.symm) hown hw (hts _ q_sys.1 rfl) (hts _ q_sys.2.1 rfl) (hts _ q_sys.2.2.1 rfl) (ty := q_at t0) hc0 hc1 (hA n1 (fun j => .int (g1 j))) (hA n2 (fun j => .int (g2 j))) (fun q => by cases q) (fun q => by cases q) (by rcases e2 with h | h | h <;> rw [h] <;> rfl) h1 h2 h3
        (by show _ ≤ (arrV _ _ _).slots.size; rw [arrV_size]; exact h4) (by show _ ≤ (arrV _ _ _).slots.size; rw [arrV_size]; exact h5) (fun i hi => ?_) (by omega) hroom hd (fun H1 locs1 k1 k2 k3 k4 => ?_)
      · have e : (vp_cell (cid t0) (n1, .inl g1)).slots.getD (sp.toNatClampNeg + i) .null = .int (g1 (sp.toNatClampNeg + i)) := by
          show (arrV (cid t0) n1 (fun j => .int (g1 j))).slots.getD _ _ = _
          rw [Array.getD_eq_getD_getElem?, arrV_read _ _ (by omega)]
          rfl
        rw [e]
        refine ⟨?_, fun T k => trivial⟩
        rcases e2 with h | h | h
        · rw [h]; rfl
        · rw [h]; exact hz h i hi
        · rw [h]; exact hz4 h i hi
      · have e9 : copied (vp_cell (cid t0) (n1, .inl g1)) (vp_cell (cid t0) (n2, .inl g2)) sp dp n = vp_cell (cid t0) (n2, .inl (va_cpy g1 g2 sp.toNatClampNeg dp.toNatClampNeg n.toNatClampNeg)) := va_copied (fun z => .int z) (cid t0) (cid t0) g1 g2 h4
        rw [e9] at k1
        exact kk H1 locs1 (q_hp_put hH k2 (hH.2 a _ ha).1 k3 k1) (q_S_at hS k2 k3 (hH.2 a _ ha).1 k4) rfl
    · cases hv
  · rename_i t0 n1 g1 t1 n2 g2 ha0 ha
    split at hv
    · rename_i hc
      obtain ⟨⟨e1, e2⟩, ⟨⟨h1, h2, h3⟩, h4, h5⟩⟩ := hc
      subst e1; subst e2
      cases hv
      have hc0 := q_cell hH ha0
      have hc1 := q_cell hH ha
      have hA := (hK.2 1 _ (q_tys_at cid 1 (by decide))).1
      refine q_copyW hx hb (hLs.symm) hown hw (hts _ q_sys.1 rfl) (hts _ q_sys.2.1 rfl) (hts _ q_sys.2.2.1 rfl) (ty := .long) hc0 hc1 (hA n1 (fun j => .long (g1 j))) (hA n2 (fun j => .long (g2 j))) (fun q => by cases q) (fun q => by cases q) rfl h1 h2 h3
        (by show _ ≤ (arrV _ _ _).slots.size; rw [arrV_size]; exact h4) (by show _ ≤ (arrV _ _ _).slots.size; rw [arrV_size]; exact h5) (fun i hi => ?_) (by omega) hroom hd (fun H1 locs1 k1 k2 k3 k4 => ?_)
      · have e : (vp_cell (cid 1) (n1, .inr (.inl g1))).slots.getD (sp.toNatClampNeg + i) .null = .long (g1 (sp.toNatClampNeg + i)) := by
          show (arrV (cid 1) n1 (fun j => .long (g1 j))).slots.getD _ _ = _
          rw [Array.getD_eq_getD_getElem?, arrV_read _ _ (by omega)]
          rfl
        rw [e]
        exact ⟨rfl, fun T k => trivial⟩
      · have e9 : copied (vp_cell (cid 1) (n1, .inr (.inl g1))) (vp_cell (cid 1) (n2, .inr (.inl g2))) sp dp n = vp_cell (cid 1) (n2, .inr (.inl (va_cpy g1 g2 sp.toNatClampNeg dp.toNatClampNeg n.toNatClampNeg))) := va_copied (fun z => .long z) (cid 1) (cid 1) g1 g2 h4
        rw [e9] at k1
        exact kk H1 locs1 (q_hp_put hH k2 (hH.2 a _ ha).1 k3 k1) (q_S_at hS k2 k3 (hH.2 a _ ha).1 k4) rfl
    · cases hv
  · rename_i t1 n2 g2 ha0 ha
    split at hv
    · rename_i n1 g1 he
      split at hv
      · rename_i hc
        obtain ⟨e1, ⟨⟨h1, h2, h3⟩, h4, h5⟩, hz⟩ := hc
        subst e1
        cases hv
        obtain ⟨cs, t1, t2, t3, t4, t5, t6, t7⟩ := q_Tat hG hY he
        have hc0 : H[a0]? = some cs := by rw [hS.2.1 a0 (Array.getElem?_eq_some_iff.mp t1).1 t7]; exact t1
        have hc1 := q_cell hH ha
        have hA := (hK.2 0 _ (q_tys_at cid 0 (by decide))).1
        have hval : ∀ i, i < n.toNatClampNeg → cs.slots.getD (sp.toNatClampNeg + i) .null = .int (q_iv g1 (sp.toNatClampNeg + i)) := fun i hi => by
          rw [Array.getD_eq_getD_getElem?, t6 _ (by omega), hz i hi]
          rfl
        refine q_copyW hx hb (hLs.symm) hown hw (hts _ q_sys.1 rfl) (hts _ q_sys.2.1 rfl) (hts _ q_sys.2.2.1 rfl) (ty := .int) hc0 hc1 t2 (hA n2 (fun j => .int (g2 j))) t3 (fun q => by cases q) rfl h1 h2 h3
          (by omega) (by show _ ≤ (arrV _ _ _).slots.size; rw [arrV_size]; exact h5) (fun i hi => ?_) (by omega) hroom hd (fun H1 locs1 k1 k2 k3 k4 => ?_)
        · rw [hval i hi]
          exact ⟨rfl, fun T k => trivial⟩
        · have e9 : copied cs (vp_cell (cid 0) (n2, .inl g2)) sp dp n = vp_cell (cid 0) (n2, .inl (va_cpy (q_iv g1) g2 sp.toNatClampNeg dp.toNatClampNeg n.toNatClampNeg)) := by
            show (vp_cell (cid 0) (n2, .inl g2)).storeRun _ (cs.stretch _ _) = _
            rw [q_stretch (k0 := cid 0) hval h4]
            exact va_copied (fun z => .int z) (cid 0) (cid 0) (q_iv g1) g2 h4
          rw [e9] at k1
          exact kk H1 locs1 (q_hp_put hH k2 (hH.2 a _ ha).1 k3 k1) (q_S_at hS k2 k3 (hH.2 a _ ha).1 k4) rfl
      · cases hv
    · rename_i n1 g1 he
      split at hv
      · rename_i hc
        obtain ⟨e1, ⟨⟨h1, h2, h3⟩, h4, h5⟩, hz⟩ := hc
        subst e1
        cases hv
        obtain ⟨cs, t1, t2, t3, t4, t5, t6, t7⟩ := q_Tat hG hY he
        have hc0 : H[a0]? = some cs := by rw [hS.2.1 a0 (Array.getElem?_eq_some_iff.mp t1).1 t7]; exact t1
        have hc1 := q_cell hH ha
        have hA := (hK.2 4 _ (q_tys_at cid 4 (by decide))).1
        have hval : ∀ i, i < n.toNatClampNeg → cs.slots.getD (sp.toNatClampNeg + i) .null = .int (q_iv g1 (sp.toNatClampNeg + i)) := fun i hi => by
          rw [Array.getD_eq_getD_getElem?, t6 _ (by omega), (hz i hi).1]
          rfl
        refine q_copyW hx hb (hLs.symm) hown hw (hts _ q_sys.1 rfl) (hts _ q_sys.2.1 rfl) (hts _ q_sys.2.2.1 rfl) (ty := .byte) hc0 hc1 t2 (hA n2 (fun j => .int (g2 j))) t3 (fun q => by cases q) rfl h1 h2 h3
          (by omega) (by show _ ≤ (arrV _ _ _).slots.size; rw [arrV_size]; exact h5) (fun i hi => ?_) (by omega) hroom hd (fun H1 locs1 k1 k2 k3 k4 => ?_)
        · rw [hval i hi]
          exact ⟨(hz i hi).2, fun T k => trivial⟩
        · have e9 : copied cs (vp_cell (cid 4) (n2, .inl g2)) sp dp n = vp_cell (cid 4) (n2, .inl (va_cpy (q_iv g1) g2 sp.toNatClampNeg dp.toNatClampNeg n.toNatClampNeg)) := by
            show (vp_cell (cid 4) (n2, .inl g2)).storeRun _ (cs.stretch _ _) = _
            rw [q_stretch (k0 := cid 4) hval h4]
            exact va_copied (fun z => .int z) (cid 4) (cid 4) (q_iv g1) g2 h4
          rw [e9] at k1
          exact kk H1 locs1 (q_hp_put hH k2 (hH.2 a _ ha).1 k3 k1) (q_S_at hS k2 k3 (hH.2 a _ ha).1 k4) rfl
      · cases hv
    · cases hv
  · cases hv

theorem q_n_invokestatic {ix : Nat} (hF : q_Fx p s m args meth c R M) (hG : q_G E D cid s0) (hY : q_Y s0 s) {len : Nat} (hd : decode M.2.1 pc = .ok (.invokestatic ix, len)) (hs : q_stepI E M (.invokestatic ix) len pc ls st h = some (.inl f)) (hbd : c0 ≤ h.2.2.1 ∧ n0 ≤ h.2.2.2 ∧ f.2.2.2.2.2.1 - c0 ≤ R.cells ∧ f.2.2.2.2.2.2 - n0 ≤ R.slots) (hH : q_hp D cid s0.heap.size h H) (hS : va_S (q_A s0) s.heap H locs) (hL : q_L L M.2.2.1 ls) (kk : ∀ (H1 : Heap) (locs1 : List Loc) (L1 : Array Slot), q_hp D cid s0.heap.size f.2.2.2 H1 → va_S (q_A s0) s.heap H1 locs1 → q_L L1 M.2.2.1 f.2.1 → W p l e R s m args below meth c H1 locs1 (f.2.2.2.2.2.1 - c0) (f.2.2.2.2.2.2 - n0) Q (F0 m f.1 L1 f.2.2.1)) : W p l e R s m args below meth c H locs (h.2.2.1 - c0) (h.2.2.2 - n0) Q (F0 m pc L st) := by
  obtain ⟨hx, hb, hr, hml, hown, hts, hlk, hnm, htab, hfr, hlo⟩ := hF
  simp only [q_stepI, q_nx] at hs
  have hF9 : q_Fx p s m args meth c R M := ⟨hx, hb, hr, hml, hown, hts, hlk, hnm, htab, hfr, hlo⟩
  split at hs
  · split at hs
    · exact (q_call_no hs).elim
    · cases hs
  · split at hs
    · rename_i pos n dp a sp a0 st1 hq
      split at hs
      · rename_i h1 hv
        split at hs
        · rename_i hlen
          obtain ⟨⟨hlen, ho⟩, hg1, hcat⟩ := hlen
          subst hlen
          cases hs
          refine q_cpy_ok hF9 hG hY hH hS (hL.2.1.trans hml.symm) ho hg1 hq hv hcat hd (fun H1 locs1 k1 k2 k3 => ?_)
          have k9 := kk H1 locs1 L k1 k2 hL
          dsimp only at k9
          rw [k3] at k9
          exact k9
        · cases hs
      · cases hs
    · rename_i y x st1 hq
      split at hs
      · rename_i j pq hq2
        split at hs
        · rename_i hlen
          obtain ⟨⟨hlen, ho⟩, hg1, hcat⟩ := hlen
          subst hlen
          cases hs
          obtain ⟨w1, w2, w3, w4, w5⟩ := q_mth_ok _ ho _ (q_lk_mem hq2)
          dsimp only at w1 w2 w3 w4 w5
          have h8 : (st1.map fun v => v.category).sum ≤ 8 := hcat
          have hb3 := hbd.2.2.1
          have hb4 := hbd.2.2.2
          dsimp only at hb3 hb4
          match j, w1 with
          | 0, _ => exact va_mmax hx hb (hml.trans hL.2.1.symm) hown (q_word hts w2 rfl) (q_word hts w3 rfl) (q_word hts w4 rfl) (q_word hts w5 rfl) (by omega) (by omega) hb3 hb4 hd (kk H locs L hH hS hL)
          | 1, _ => exact va_mmin hx hb (hml.trans hL.2.1.symm) hown (q_word hts w2 rfl) (q_word hts w3 rfl) (q_word hts w4 rfl) (q_word hts w5 rfl) (by omega) (by omega) hb3 hb4 hd (kk H locs L hH hS hL)
        · cases hs
      · cases hs
    · cases hs
theorem q_n_invokespecial {ix : Nat} (hF : q_Fx p s m args meth c R M) (hG : q_G E D cid s0) (hY : q_Y s0 s) {len : Nat} (hd : decode M.2.1 pc = .ok (.invokespecial ix, len)) (hs : q_stepI E M (.invokespecial ix) len pc ls st h = some (.inl f)) (hbd : c0 ≤ h.2.2.1 ∧ n0 ≤ h.2.2.2 ∧ f.2.2.2.2.2.1 - c0 ≤ R.cells ∧ f.2.2.2.2.2.2 - n0 ≤ R.slots) (hH : q_hp D cid s0.heap.size h H) (hS : va_S (q_A s0) s.heap H locs) (hL : q_L L M.2.2.1 ls) (kk : ∀ (H1 : Heap) (locs1 : List Loc) (L1 : Array Slot), q_hp D cid s0.heap.size f.2.2.2 H1 → va_S (q_A s0) s.heap H1 locs1 → q_L L1 M.2.2.1 f.2.1 → W p l e R s m args below meth c H1 locs1 (f.2.2.2.2.2.1 - c0) (f.2.2.2.2.2.2 - n0) Q (F0 m f.1 L1 f.2.2.1)) : W p l e R s m args below meth c H locs (h.2.2.1 - c0) (h.2.2.2 - n0) Q (F0 m pc L st) := by
  obtain ⟨hx, hb, hr, hml, hown, hts, hlk, hnm, htab, hfr, hlo⟩ := hF
  simp only [q_stepI, q_nx] at hs
  split at hs
  · split at hs
    · exact (q_call_no hs).elim
    · cases hs
  · split at hs
    · split at hs
      · exact (q_callU_no hs).elim
      · cases hs
    · split at hs
      · rename_i pos a st1 hq
        split at hs
        · rename_i hlen
          obtain ⟨⟨hlen, ho⟩, hg1, hcat⟩ := hlen
          subst hlen
          cases hs
          have h8 : (st1.map fun v => v.category).sum ≤ 8 := hcat
          exact W.objInit hx hb hown (q_word hts (q_obi_ok _ ho _ (q_lk_mem hq)) rfl) (hts _ q_sys.2.2.2.1 rfl) (hts _ q_sys.2.2.2.2 rfl) (g := F0 m pc L (.ref a :: st1)) rfl (hL.2.1.trans hml.symm) rfl hd (by omega) (by show 2 * 0 + _ + _ ≤ _; omega) (kk H locs L hH hS hL)
        · cases hs
      · cases hs
theorem q_n_invokevirtual {ix : Nat} (hF : q_Fx p s m args meth c R M) (hG : q_G E D cid s0) (hY : q_Y s0 s) {len : Nat} (hd : decode M.2.1 pc = .ok (.invokevirtual ix, len)) (hs : q_stepI E M (.invokevirtual ix) len pc ls st h = some (.inl f)) (hbd : c0 ≤ h.2.2.1 ∧ n0 ≤ h.2.2.2 ∧ f.2.2.2.2.2.1 - c0 ≤ R.cells ∧ f.2.2.2.2.2.2 - n0 ≤ R.slots) (hH : q_hp D cid s0.heap.size h H) (hS : va_S (q_A s0) s.heap H locs) (hL : q_L L M.2.2.1 ls) (kk : ∀ (H1 : Heap) (locs1 : List Loc) (L1 : Array Slot), q_hp D cid s0.heap.size f.2.2.2 H1 → va_S (q_A s0) s.heap H1 locs1 → q_L L1 M.2.2.1 f.2.1 → W p l e R s m args below meth c H1 locs1 (f.2.2.2.2.2.1 - c0) (f.2.2.2.2.2.2 - n0) Q (F0 m f.1 L1 f.2.2.1)) : W p l e R s m args below meth c H locs (h.2.2.1 - c0) (h.2.2.2 - n0) Q (F0 m pc L st) := by
  obtain ⟨hx, hb, hr, hml, hown, hts, hlk, hnm, htab, hfr, hlo⟩ := hF
  simp only [q_stepI, q_nx] at hs
  split at hs
  · split at hs
    · exact (q_call_no hs).elim
    · cases hs
  · split at hs
    · split at hs
      · exact (q_callU_no hs).elim
      · cases hs
    · split at hs
      · rename_i a st1 q pos hsz0 hq
        split at hs
        · rename_i n g hv
          split at hs
          · rename_i hlen
            obtain ⟨⟨⟨hlen, ho⟩, hg1, hcat⟩, hfit⟩ := hlen
            subst hlen
            cases hs
            have hsz := hH.1 q hsz0
            have h8 : (st1.map fun v => v.category).sum ≤ 8 := hcat
            obtain ⟨c1, c2, c3, c4, c5⟩ := q_clw
            have hcl : va_Nw (.castable "[B" "java/lang/Cloneable") s := va_Nw.warmC hY.1 (va_Nw.of rfl (hG.2.2.2.2.1 _ c5 rfl))
            refine q_cloneK hx hb (hml.trans hL.2.1.symm) hown (q_word hts (q_cln_ok _ ho _ (q_lk_mem hq)) rfl) (hts _ c1 rfl) (hts _ c2 rfl) (hts _ c3 rfl) (hts _ c4 rfl) hcl ((q_K hG hY).2 4 _ (q_tys_at cid 4 (by decide))).1 (q_cell hH (q_cl1_some hv)) (q_fcB hG hY) hfit (by omega) (by omega) (by have := hbd.2.2.1; dsimp only [q_al] at this; omega) (by have := hbd.2.2.2; dsimp only [q_al] at this; omega) hd (fun H1 e1 e2 e3 => ?_)
            subst hsz
            rw [show h.2.2.1 - c0 + 1 = h.2.2.1 + 1 - c0 by omega, show h.2.2.2 - n0 + n = h.2.2.2 + n - n0 by omega]
            exact kk H1 locs L (q_hp_new hH rfl e2 (q_b0 hY hS) e3 e1) (q_S_new hS e2 e3) hL
          · cases hs
        · cases hs
      · cases hs
/-- every instruction that goes on in the same frame -/
theorem q_next (hF : q_Fx p s m args meth c R M) (hG : q_G E D cid s0) (hY : q_Y s0 s) {i : Instr} {len : Nat} (hd : decode M.2.1 pc = .ok (i, len)) (hs : q_stepI E M i len pc ls st h = some (.inl f)) (hbd : c0 ≤ h.2.2.1 ∧ n0 ≤ h.2.2.2 ∧ f.2.2.2.2.2.1 - c0 ≤ R.cells ∧ f.2.2.2.2.2.2 - n0 ≤ R.slots) (hH : q_hp D cid s0.heap.size h H) (hS : va_S (q_A s0) s.heap H locs) (hL : q_L L M.2.2.1 ls) (kk : ∀ (H1 : Heap) (locs1 : List Loc) (L1 : Array Slot), q_hp D cid s0.heap.size f.2.2.2 H1 → va_S (q_A s0) s.heap H1 locs1 → q_L L1 M.2.2.1 f.2.1 → W p l e R s m args below meth c H1 locs1 (f.2.2.2.2.2.1 - c0) (f.2.2.2.2.2.2 - n0) Q (F0 m f.1 L1 f.2.2.1)) : W p l e R s m args below meth c H locs (h.2.2.1 - c0) (h.2.2.2 - n0) Q (F0 m pc L st) := by
  cases i
  case iconst => exact q_n_iconst hF hG hY hd hs hbd hH hS hL kk
  case bipush => exact q_n_bipush hF hG hY hd hs hbd hH hS hL kk
  case sipush => exact q_n_sipush hF hG hY hd hs hbd hH hS hL kk
  case lconst => exact q_n_lconst hF hG hY hd hs hbd hH hS hL kk
  case iadd => exact q_n_iadd hF hG hY hd hs hbd hH hS hL kk
  case isub => exact q_n_isub hF hG hY hd hs hbd hH hS hL kk
  case imul => exact q_n_imul hF hG hY hd hs hbd hH hS hL kk
  case iand => exact q_n_iand hF hG hY hd hs hbd hH hS hL kk
  case ior => exact q_n_ior hF hG hY hd hs hbd hH hS hL kk
  case ishl => exact q_n_ishl hF hG hY hd hs hbd hH hS hL kk
  case ishr => exact q_n_ishr hF hG hY hd hs hbd hH hS hL kk
  case land => exact q_n_land hF hG hY hd hs hbd hH hS hL kk
  case lor => exact q_n_lor hF hG hY hd hs hbd hH hS hL kk
  case lxor => exact q_n_lxor hF hG hY hd hs hbd hH hS hL kk
  case lshl => exact q_n_lshl hF hG hY hd hs hbd hH hS hL kk
  case lushr => exact q_n_lushr hF hG hY hd hs hbd hH hS hL kk
  case i2l => exact q_n_i2l hF hG hY hd hs hbd hH hS hL kk
  case i2c => exact q_n_i2c hF hG hY hd hs hbd hH hS hL kk
  case i2b => exact q_n_i2b hF hG hY hd hs hbd hH hS hL kk
  case i2f => exact q_n_i2f hF hG hY hd hs hbd hH hS hL kk
  case i2d => exact q_n_i2d hF hG hY hd hs hbd hH hS hL kk
  case f2d => exact q_n_f2d hF hG hY hd hs hbd hH hS hL kk
  case fdiv => exact q_n_fdiv hF hG hY hd hs hbd hH hS hL kk
  case ddiv => exact q_n_ddiv hF hG hY hd hs hbd hH hS hL kk
  case fcmp => exact q_n_fcmp hF hG hY hd hs hbd hH hS hL kk
  case dcmp => exact q_n_dcmp hF hG hY hd hs hbd hH hS hL kk
  case fconst => exact q_n_fconst hF hG hY hd hs hbd hH hS hL kk
  case dconst => exact q_n_dconst hF hG hY hd hs hbd hH hS hL kk
  case ldc => exact q_n_ldc hF hG hY hd hs hbd hH hS hL kk
  case ldc_w => exact q_n_ldc_w hF hG hY hd hs hbd hH hS hL kk
  case aconst_null => exact q_n_aconst_null hF hG hY hd hs hbd hH hS hL kk
  case ifnonnull => exact q_n_ifnonnull hF hG hY hd hs hbd hH hS hL kk
  case ifnull => exact q_n_ifnull hF hG hY hd hs hbd hH hS hL kk
  case iushr => exact q_n_iushr hF hG hY hd hs hbd hH hS hL kk
  case ineg => exact q_n_ineg hF hG hY hd hs hbd hH hS hL kk
  case lmul => exact q_n_lmul hF hG hY hd hs hbd hH hS hL kk
  case ladd => exact q_n_ladd hF hG hY hd hs hbd hH hS hL kk
  case checkcast => exact q_n_checkcast hF hG hY hd hs hbd hH hS hL kk
  case lcmp => exact q_n_lcmp hF hG hY hd hs hbd hH hS hL kk
  case idiv => exact q_n_idiv hF hG hY hd hs hbd hH hS hL kk
  case irem => exact q_n_irem hF hG hY hd hs hbd hH hS hL kk
  case dup => exact q_n_dup hF hG hY hd hs hbd hH hS hL kk
  case dup2 => exact q_n_dup2 hF hG hY hd hs hbd hH hS hL kk
  case pop => exact q_n_pop hF hG hY hd hs hbd hH hS hL kk
  case fload => exact q_n_fload hF hG hY hd hs hbd hH hS hL kk
  case dload => exact q_n_dload hF hG hY hd hs hbd hH hS hL kk
  case iload_n => exact q_n_iload_n hF hG hY hd hs hbd hH hS hL kk
  case iload => exact q_n_iload hF hG hY hd hs hbd hH hS hL kk
  case lload_n => exact q_n_lload_n hF hG hY hd hs hbd hH hS hL kk
  case lload => exact q_n_lload hF hG hY hd hs hbd hH hS hL kk
  case aload_n => exact q_n_aload_n hF hG hY hd hs hbd hH hS hL kk
  case aload => exact q_n_aload hF hG hY hd hs hbd hH hS hL kk
  case istore_n => exact q_n_istore_n hF hG hY hd hs hbd hH hS hL kk
  case istore => exact q_n_istore hF hG hY hd hs hbd hH hS hL kk
  case astore_n => exact q_n_astore_n hF hG hY hd hs hbd hH hS hL kk
  case astore => exact q_n_astore hF hG hY hd hs hbd hH hS hL kk
  case lstore_n => exact q_n_lstore_n hF hG hY hd hs hbd hH hS hL kk
  case fstore => exact q_n_fstore hF hG hY hd hs hbd hH hS hL kk
  case dstore => exact q_n_dstore hF hG hY hd hs hbd hH hS hL kk
  case lstore => exact q_n_lstore hF hG hY hd hs hbd hH hS hL kk
  case iinc => exact q_n_iinc hF hG hY hd hs hbd hH hS hL kk
  case ldc2_w => exact q_n_ldc2_w hF hG hY hd hs hbd hH hS hL kk
  case goto => exact q_n_goto hF hG hY hd hs hbd hH hS hL kk
  case ifCond k off =>
    cases k
    case eq => exact q_n_ifCond_eq hF hG hY hd hs hbd hH hS hL kk
    case ne => exact q_n_ifCond_ne hF hG hY hd hs hbd hH hS hL kk
    case lt => exact q_n_ifCond_lt hF hG hY hd hs hbd hH hS hL kk
    case ge => exact q_n_ifCond_ge hF hG hY hd hs hbd hH hS hL kk
    case gt => exact q_n_ifCond_gt hF hG hY hd hs hbd hH hS hL kk
    case le => exact q_n_ifCond_le hF hG hY hd hs hbd hH hS hL kk
  case if_icmp k off =>
    cases k
    case eq => exact q_n_if_icmp_eq hF hG hY hd hs hbd hH hS hL kk
    case ne => exact q_n_if_icmp_ne hF hG hY hd hs hbd hH hS hL kk
    case lt => exact q_n_if_icmp_lt hF hG hY hd hs hbd hH hS hL kk
    case ge => exact q_n_if_icmp_ge hF hG hY hd hs hbd hH hS hL kk
    case gt => exact q_n_if_icmp_gt hF hG hY hd hs hbd hH hS hL kk
    case le => exact q_n_if_icmp_le hF hG hY hd hs hbd hH hS hL kk
  case tableswitch => exact q_n_tableswitch hF hG hY hd hs hbd hH hS hL kk
  case getfield => exact q_n_getfield hF hG hY hd hs hbd hH hS hL kk
  case putfield => exact q_n_putfield hF hG hY hd hs hbd hH hS hL kk
  case iaload => exact q_n_iaload hF hG hY hd hs hbd hH hS hL kk
  case baload => exact q_n_baload hF hG hY hd hs hbd hH hS hL kk
  case caload => exact q_n_caload hF hG hY hd hs hbd hH hS hL kk
  case laload => exact q_n_laload hF hG hY hd hs hbd hH hS hL kk
  case aaload => exact q_n_aaload hF hG hY hd hs hbd hH hS hL kk
  case iastore => exact q_n_iastore hF hG hY hd hs hbd hH hS hL kk
  case lastore => exact q_n_lastore hF hG hY hd hs hbd hH hS hL kk
  case bastore => exact q_n_bastore hF hG hY hd hs hbd hH hS hL kk
  case castore => exact q_n_castore hF hG hY hd hs hbd hH hS hL kk
  case arraylength => exact q_n_arraylength hF hG hY hd hs hbd hH hS hL kk
  case getstatic => exact q_n_getstatic hF hG hY hd hs hbd hH hS hL kk
  case newarray => exact q_n_newarray hF hG hY hd hs hbd hH hS hL kk
  case anewarray => exact q_n_anewarray hF hG hY hd hs hbd hH hS hL kk
  case multianewarray => exact q_n_multianewarray hF hG hY hd hs hbd hH hS hL kk
  case new => exact q_n_new hF hG hY hd hs hbd hH hS hL kk
  case aastore => exact q_n_aastore hF hG hY hd hs hbd hH hS hL kk
  case invokestatic => exact q_n_invokestatic hF hG hY hd hs hbd hH hS hL kk
  case invokespecial => exact q_n_invokespecial hF hG hY hd hs hbd hH hS hL kk
  case invokevirtual => exact q_n_invokevirtual hF hG hY hd hs hbd hH hS hL kk
  case ireturn => simp only [q_stepI] at hs; split at hs <;> (try split at hs) <;> cases hs
  case lreturn => simp only [q_stepI] at hs; split at hs <;> (try split at hs) <;> cases hs
  case freturn => simp only [q_stepI] at hs; split at hs <;> (try split at hs) <;> cases hs
  case dreturn => simp only [q_stepI] at hs; split at hs <;> (try split at hs) <;> cases hs
  case return_ => simp only [q_stepI] at hs; split at hs <;> (try split at hs) <;> cases hs
  case areturn => simp only [q_stepI] at hs; split at hs <;> (try split at hs) <;> cases hs
  all_goals (exact absurd hs (by simp [q_stepI]))
end QQ
