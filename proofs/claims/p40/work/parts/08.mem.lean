/-! the abstract machine's instructions that look at the heap -/
section QM
variable {p : Program} {l : Launch} {e : Env} {R : Room} {s s0 : State} {m : MethodId} {args : Array Value} {below : List Frame} {meth : Method} {c : Code} {H : Heap} {locs : List Loc} {Q : State → Prop}
variable {E : q_E} {D : va_G} {cid : Nat → ClassId} {M : q_M} {pc : Nat} {ls st : List Value} {h : q_H} {L : Array Slot} {f : q_F} {c0 n0 : Nat}
theorem q_P1 {q : Nat × va_E} (h : va_at D q_cls q H) : va_P D q_cls [q] H := by
  intro k x hk
  cases k with
  | zero => cases hk; exact h
  | succ k => simp at hk
theorem q_uw {c : Nat} (hc : c < 10) (hts : ∀ w ∈ lw_tbl, goodWord w = true → w.before args s = true) : ∀ w ∈ u_ws (q_cnm c) (q_T c) (q_N c), w.before args s = true := by
  intro w hw
  refine hts w (q_ws_ok c hc w hw) ?_
  obtain ⟨k, -, rfl⟩ := List.mem_map.mp hw
  unfold u_lay
  split <;> rfl
theorem q_sbf : ∀ k, k < 4 → (q_T 8 k).2.2.2 = false := by decide +kernel
theorem q_ac : ∀ t, t < 5 → Cond.arrayClass (q_at t) ∈ lw_tbl := by decide +kernel
theorem q_inst : ∀ ci, ci < 10 → Cond.instantiable (q_cnm ci) (q_N ci) ∈ lw_tbl := by decide +kernel
theorem q_gf_some {a ci k : Nat} {v : Value} (hv : q_gf h a ci k = some v) : ∃ fs, h.1 a = some (.inr (ci, fs)) ∧ fs[k]? = some v := by
  unfold q_gf at hv
  split at hv
  · rename_i c1 fs hc
    split at hv
    · rename_i e1
      subst e1
      exact ⟨fs, hc, hv⟩
    · cases hv
  · cases hv
theorem q_pf_some {a ci k : Nat} {v : Value} {h' : q_H} (hv : q_pf h a ci k v = some h') : ∃ fs, h.1 a = some (.inr (ci, fs)) ∧ k < fs.length ∧ h' = q_up h a (.inr (ci, fs.set k v)) := by
  unfold q_pf at hv
  split at hv
  · rename_i c1 fs hc
    split at hv
    · rename_i e1
      obtain ⟨e1, e2⟩ := e1
      subst e1
      cases hv
      exact ⟨fs, hc, e2, rfl⟩
    · cases hv
  · cases hv
theorem q_sI_some {t a : Nat} {i x : Int32} {h' : q_H} (hv : q_sI h t a i x = some h') : ∃ n g, h.1 a = some (.inl (t, n, .inl g)) ∧ ¬ q_out i n ∧ h' = q_up h a (.inl (t, n, .inl (upd g i.toNatClampNeg x))) := by
  unfold q_sI at hv
  split at hv
  · rename_i t1 n g hc
    split at hv
    · rename_i e1
      obtain ⟨e1, e2⟩ := e1
      subst e1
      cases hv
      exact ⟨n, g, hc, e2, rfl⟩
    · cases hv
  · cases hv
theorem q_sL_some {a : Nat} {i : Int32} {x : Int64} {h' : q_H} (hv : q_sL h a i x = some h') : ∃ n g, h.1 a = some (.inl (1, n, .inr (.inl g))) ∧ ¬ q_out i n ∧ h' = q_up h a (.inl (1, n, .inr (.inl (vp_updL g i.toNatClampNeg x)))) := by
  unfold q_sL at hv
  split at hv
  · rename_i t1 n g hc
    split at hv
    · rename_i e1
      obtain ⟨e1, e2⟩ := e1
      subst e1
      cases hv
      exact ⟨n, g, hc, e2, rfl⟩
    · cases hv
  · cases hv
theorem q_sQ_some {a v : Nat} {i : Int32} {h' : q_H} (hv : q_sQ h a i v = some h') : ∃ t n g fs, h.1 a = some (.inl (t, n, .inr (.inr (.inr (.inr g))))) ∧ h.1 v = some (.inr (q_ec t, fs)) ∧ (5 ≤ t ∧ t ≤ 7) ∧ ¬ q_out i n ∧ h' = q_up h a (.inl (t, n, .inr (.inr (.inr (.inr (va_up g i.toNatClampNeg (some v))))))) := by
  unfold q_sQ at hv
  split at hv
  · rename_i t1 n g ci fs hc hc2
    split at hv
    · rename_i e1
      obtain ⟨e1, e2, e3⟩ := e1
      subst e2
      cases hv
      exact ⟨t1, n, g, fs, hc, hc2, e1, e3, rfl⟩
    · cases hv
  · cases hv
theorem q_cell {t n a : Nat} {z} (hH : q_hp D cid s0.heap.size h H) (ha : h.1 a = some (.inl (t, n, z))) : H[a]? = some (vp_cell (cid t) (n, z)) := (hH.2 a _ ha).2

theorem q_sx_some {a i : Nat} (hv : q_sx E a = some i) : i < 8 ∧ E.1 (6 + 2 * i) = some (.ref a) := by
  unfold q_sx at hv
  have h1 := List.find?_some hv
  have h2 := List.mem_of_find?_eq_some hv
  exact ⟨List.mem_range.mp h2, by simpa using h1⟩
theorem q_gE_some {a ci k : Nat} {v : Value} (hv : q_gE E h a ci k = some v) : (∃ fs, h.1 a = some (.inr (ci, fs)) ∧ fs[k]? = some v) ∨ (ci = 9 ∧ ∃ i, q_sx E a = some i ∧ ((k = 0 ∧ E.1 (7 + 2 * i) = some v) ∨ (k = 1 ∧ v = .int 0))) := by
  unfold q_gE at hv
  split at hv
  · rename_i c fs hc
    split at hv
    · rename_i e
      subst e
      exact Or.inl ⟨fs, hc, hv⟩
    · cases hv
  · split at hv
    · rename_i e
      refine Or.inr ⟨e, ?_⟩
      split at hv
      · rename_i i hi
        exact ⟨i, hi, Or.inl ⟨rfl, hv⟩⟩
      · rename_i i hi
        cases hv
        exact ⟨i, hi, Or.inr ⟨rfl, rfl⟩⟩
      · cases hv
    · cases hv
  · cases hv
theorem q_n_getfield {ix : Nat} (hF : q_Fx p s m args meth c R M) (hG : q_G E D cid s0) (hY : q_Y s0 s) {len : Nat} (hd : decode M.2.1 pc = .ok (.getfield ix, len)) (hs : q_stepI E M (.getfield ix) len pc ls st h = some (.inl f)) (hbd : c0 ≤ h.2.2.1 ∧ n0 ≤ h.2.2.2 ∧ f.2.2.2.2.2.1 - c0 ≤ R.cells ∧ f.2.2.2.2.2.2 - n0 ≤ R.slots) (hH : q_hp D cid s0.heap.size h H) (hS : va_S (q_A s0) s.heap H locs) (hL : q_L L M.2.2.1 ls) (kk : ∀ (H1 : Heap) (locs1 : List Loc) (L1 : Array Slot), q_hp D cid s0.heap.size f.2.2.2 H1 → va_S (q_A s0) s.heap H1 locs1 → q_L L1 M.2.2.1 f.2.1 → W p l e R s m args below meth c H1 locs1 (f.2.2.2.2.2.1 - c0) (f.2.2.2.2.2.2 - n0) Q (F0 m f.1 L1 f.2.2.1)) : W p l e R s m args below meth c H locs (h.2.2.1 - c0) (h.2.2.2 - n0) Q (F0 m pc L st) := by
  obtain ⟨hx, hb, hr, hml, hown, hts, hlk, hnm, htab, hfr, hlo⟩ := hF
  simp only [q_stepI, q_nx] at hs
  split at hs
  · rename_i ci k pos a st1 hq
    split at hs
    · rename_i v hv
      split at hs
      · rename_i hlen
        obtain ⟨hlen, ho⟩ := hlen
        subst hlen
        cases hs
        obtain ⟨w1, w2, w3, w4⟩ := q_fl_ok _ ho _ (q_lk_mem hq)
        dsimp only at w1 w2 w3 w4
        rcases q_gE_some hv with ⟨fs, h1, h2⟩ | ⟨rfl, i, hi, hk⟩
        · exact va_get hx hb (q_uw w2 hts) (fun w h => h) hown (q_K hG hY) (q_P1 (hH.2 a _ h1).2) 0 rfl (q_cls_ok _ w2) k w3 (q_word hts w1 rfl) (fun x h => h) h2 hd (kk H locs L hH hS hL)
        · obtain ⟨hi8, hia⟩ := q_sx_some hi
          obtain ⟨adK, adV, h1, h3⟩ := q_Sat hG hY
          obtain ⟨g1, g2, -⟩ := h1 i hi8
          rw [g1] at hia
          cases hia
          rcases hk with ⟨rfl, hk⟩ | ⟨rfl, rfl⟩
          · rw [g2] at hk
            cases hk
            exact vk_getf hx hb (h3.1 i hi8).2.2.1 hS hown (q_word hts w1 rfl) (fun x h => h) hd (kk H locs L hH hS hL)
          · exact vk_getf hx hb (h3.1 i hi8).2.1 hS hown (q_word hts w1 rfl) (fun x h => h) hd (kk H locs L hH hS hL)
      · cases hs
    · cases hs
  · cases hs
theorem q_n_putfield {ix : Nat} (hF : q_Fx p s m args meth c R M) (hG : q_G E D cid s0) (hY : q_Y s0 s) {len : Nat} (hd : decode M.2.1 pc = .ok (.putfield ix, len)) (hs : q_stepI E M (.putfield ix) len pc ls st h = some (.inl f)) (hbd : c0 ≤ h.2.2.1 ∧ n0 ≤ h.2.2.2 ∧ f.2.2.2.2.2.1 - c0 ≤ R.cells ∧ f.2.2.2.2.2.2 - n0 ≤ R.slots) (hH : q_hp D cid s0.heap.size h H) (hS : va_S (q_A s0) s.heap H locs) (hL : q_L L M.2.2.1 ls) (kk : ∀ (H1 : Heap) (locs1 : List Loc) (L1 : Array Slot), q_hp D cid s0.heap.size f.2.2.2 H1 → va_S (q_A s0) s.heap H1 locs1 → q_L L1 M.2.2.1 f.2.1 → W p l e R s m args below meth c H1 locs1 (f.2.2.2.2.2.1 - c0) (f.2.2.2.2.2.2 - n0) Q (F0 m f.1 L1 f.2.2.1)) : W p l e R s m args below meth c H locs (h.2.2.1 - c0) (h.2.2.2 - n0) Q (F0 m pc L st) := by
  obtain ⟨hx, hb, hr, hml, hown, hts, hlk, hnm, htab, hfr, hlo⟩ := hF
  simp only [q_stepI, q_nx] at hs
  split at hs
  · rename_i ci k pos v a st1 hq
    split at hs
    · rename_i h1 hv
      split at hs
      · rename_i hlen
        obtain ⟨⟨hlen, ho⟩, hna, hfi, hfn⟩ := hlen
        subst hlen
        cases hs
        obtain ⟨fs, h1, h2, rfl⟩ := q_pf_some hv
        obtain ⟨w1, w2, w3, w4⟩ := q_fl_ok _ ho _ (q_lk_mem hq)
        dsimp only at w1 w2 w3 w4
        have hK := q_K hG hY
        have hc := q_cls_ok ci w2
        have hlk2 := q_word (s := s) (args := args) hts w1 rfl
        have hap := va_apart (own := q_nm (q_own M)) (q_uw w2 hts) (fun w h => h) (q_ty ci) (q_ty_ok ci w2) (q_nm_ok ci w2) hK hc
        obtain ⟨hb0, r, h1r, cell, q1, q2, q3, q4⟩ := hH.2 a _ h1
        have hr9 : r = (q_cnm ci, q_T ci, q_N ci) := Option.some.inj (h1r.symm.trans hc)
        subst hr9
        obtain ⟨hSl, hfc, kC, hkC, hkind⟩ := hK.1 ci _ hc
        obtain ⟨cf, kf, fi, fd, hi, hsl⟩ := hSl k w3
        have hsame : s.fieldFound? (q_T ci k).1 (q_T ci k).2.1 (q_T ci k).2.2.1 = some (cf, kf, fi, fd) := hi
        have hst := (u_facts hfc hkC (u_lays (q_uw w2 hts) (fun w h => h) w3) hi).1
        have fin : ∀ (H1 : Heap), H1[a]? = some (cell.setSlot (D.2 ci k) v) → H1.size = H.size → (∀ q : Nat, q ≠ a → H1[q]? = H[q]?) → q_hp D cid s0.heap.size (q_up h a (.inr (ci, fs.set k v))) H1 := fun H1 e1 e2 e3 =>
          q_hp_put hH e2 hb0 e3 ⟨_, hc, t_OB.to (V := updV (vp_V fs) k v) ⟨_, e1, q2, q3, t_set q4 hap w3 v⟩ (fun j _ => vp_updV_set h2 v j)⟩
        have hlay := q_uw (c := ci) w2 hts _ (u_in_lay w3)
        unfold u_lay at hlay
        by_cases hf9 : (q_T ci k).2.2.2 = true
        · rw [if_pos hf9] at hlay
          have hcf : m.cls = cf := by
            obtain ⟨_, _, c', _, _, _, -, -, hf', -, -, -, hown2, -⟩ := Cond.laysFinal_spec hlay
            have e1 : c' = cf := by have := hi.symm.trans hf'; simp at this; exact this.1.symm
            have h8 : ¬ ci = 8 := fun e8 => by subst e8; rw [q_sbf k w3] at hf9; cases hf9
            rw [w4 h8, (hfn hf9).2] at hown2
            rw [← e1]; exact Option.some.inj (hown.symm.trans hown2)
          have h6 := u_fits hfc hkC hkind (Or.inr hlay) hi (q_ty_ok ci w2 k w3) hna hfi
          refine W.putFinK hx hb hown hlk2 hsame hst hcf (hnm (hfn hf9).1) (by rw [q2]; exact h6) q1 q3 (by rw [hsl]; exact k2_hasslot (q4 k w3)) rfl rfl hd fun H1 e1 e2 e3 => ?_
          rw [hsl] at e1
          exact kk H1 _ L (fin H1 e1 e2 e3) (hS.put e2 e3 hb0) hL
        · rw [if_neg hf9] at hlay
          have h6 := u_store hfc hkC hkind hlay hi (q_ty_ok ci w2 k w3) hna hfi
          refine W.putK hx hb (f := fd) ⟨hown, hlk2, ⟨_, _, _, hsame⟩, hst⟩ (by rw [q2]; exact h6) q1 q3 (by rw [hsl]; exact k2_hasslot (q4 k w3)) rfl rfl hd fun H1 e1 e2 e3 => ?_
          rw [hsl] at e1
          exact kk H1 _ L (fin H1 e1 e2 e3) (hS.put e2 e3 hb0) hL
      · cases hs
    · cases hs
  · cases hs
theorem q_gI_some {t a : Nat} {ty : FieldType} {i : Int32} {v : Value} (hv : q_gI E h t ty a i = some v) : (∃ n g, h.1 a = some (.inl (t, n, .inl g)) ∧ ¬ q_out i n ∧ v = .int (g i.toNatClampNeg)) ∨ (∃ n g, E.2 a = some (ty, n, g) ∧ ¬ q_out i n ∧ v = g i.toNatClampNeg) := by
  unfold q_gI at hv
  split at hv
  · rename_i t1 n g hc
    split at hv
    · rename_i e1
      obtain ⟨e1, e2⟩ := e1
      subst e1
      cases hv
      exact Or.inl ⟨n, g, hc, e2, rfl⟩
    · cases hv
  · split at hv
    · rename_i ty1 n g hc
      split at hv
      · rename_i e1
        obtain ⟨e1, e2⟩ := e1
        subst e1
        cases hv
        exact Or.inr ⟨n, g, hc, e2, rfl⟩
      · cases hv
    · cases hv
  · cases hv
theorem q_n_baload (hF : q_Fx p s m args meth c R M) (hG : q_G E D cid s0) (hY : q_Y s0 s) {len : Nat} (hd : decode M.2.1 pc = .ok (.baload, len)) (hs : q_stepI E M (.baload) len pc ls st h = some (.inl f)) (hbd : c0 ≤ h.2.2.1 ∧ n0 ≤ h.2.2.2 ∧ f.2.2.2.2.2.1 - c0 ≤ R.cells ∧ f.2.2.2.2.2.2 - n0 ≤ R.slots) (hH : q_hp D cid s0.heap.size h H) (hS : va_S (q_A s0) s.heap H locs) (hL : q_L L M.2.2.1 ls) (kk : ∀ (H1 : Heap) (locs1 : List Loc) (L1 : Array Slot), q_hp D cid s0.heap.size f.2.2.2 H1 → va_S (q_A s0) s.heap H1 locs1 → q_L L1 M.2.2.1 f.2.1 → W p l e R s m args below meth c H1 locs1 (f.2.2.2.2.2.1 - c0) (f.2.2.2.2.2.2 - n0) Q (F0 m f.1 L1 f.2.2.1)) : W p l e R s m args below meth c H locs (h.2.2.1 - c0) (h.2.2.2 - n0) Q (F0 m pc L st) := by
  obtain ⟨hx, hb, hr, hml, hown, hts, hlk, hnm, htab, hfr, hlo⟩ := hF
  simp only [q_stepI, q_nx] at hs
  split at hs
  · rename_i i a st1
    split at hs
    · rename_i v hv
      split at hs
      · rename_i hlen
        subst hlen
        cases hs
        unfold q_gB at hv
        split at hv
        · split at hv
          · rename_i n g hc
            split at hv
            · rename_i h2
              cases hv
              exact va_tb hx hb (q_Tat hG hY hc) hS h2 rfl hd (kk H locs L hH hS hL)
            · cases hv
          · cases hv
        · rename_i n g hc
          split at hv
          · rename_i h2
            cases hv
            exact va_bald hx hb (q_K hG hY) (q_P1 (hH.2 a _ hc).2) 0 4 rfl (q_tys_at cid 4 (by decide)) h2 hd (kk H locs L hH hS hL)
          · cases hv
        · rcases q_gI_some hv with ⟨n, g, h1, h2, rfl⟩ | ⟨n, g, h1, h2, rfl⟩
          · exact va_zald hx hb (q_K hG hY) (q_P1 (hH.2 a _ h1).2) 0 2 rfl (q_tys_at cid 2 (by decide)) h2 hd (kk H locs L hH hS hL)
          · exact va_tz hx hb (q_Tat hG hY h1) hS h2 rfl hd (kk H locs L hH hS hL)
      · cases hs
    · cases hs
  · cases hs
theorem q_n_iaload (hF : q_Fx p s m args meth c R M) (hG : q_G E D cid s0) (hY : q_Y s0 s) {len : Nat} (hd : decode M.2.1 pc = .ok (.iaload, len)) (hs : q_stepI E M (.iaload) len pc ls st h = some (.inl f)) (hbd : c0 ≤ h.2.2.1 ∧ n0 ≤ h.2.2.2 ∧ f.2.2.2.2.2.1 - c0 ≤ R.cells ∧ f.2.2.2.2.2.2 - n0 ≤ R.slots) (hH : q_hp D cid s0.heap.size h H) (hS : va_S (q_A s0) s.heap H locs) (hL : q_L L M.2.2.1 ls) (kk : ∀ (H1 : Heap) (locs1 : List Loc) (L1 : Array Slot), q_hp D cid s0.heap.size f.2.2.2 H1 → va_S (q_A s0) s.heap H1 locs1 → q_L L1 M.2.2.1 f.2.1 → W p l e R s m args below meth c H1 locs1 (f.2.2.2.2.2.1 - c0) (f.2.2.2.2.2.2 - n0) Q (F0 m f.1 L1 f.2.2.1)) : W p l e R s m args below meth c H locs (h.2.2.1 - c0) (h.2.2.2 - n0) Q (F0 m pc L st) := by
  obtain ⟨hx, hb, hr, hml, hown, hts, hlk, hnm, htab, hfr, hlo⟩ := hF
  simp only [q_stepI, q_nx] at hs
  split at hs
  · rename_i i a st1
    split at hs
    · rename_i v hv
      split at hs
      · rename_i hlen
        subst hlen
        cases hs
        rcases q_gI_some hv with ⟨n, g, h1, h2, rfl⟩ | ⟨n, g, h1, h2, rfl⟩
        · exact va_iald hx hb (q_K hG hY) (q_P1 (hH.2 a _ h1).2) 0 0 rfl (q_tys_at cid 0 (by decide)) h2 hd (kk H locs L hH hS hL)
        · exact va_ti hx hb (q_Tat hG hY h1) hS h2 rfl hd (kk H locs L hH hS hL)
      · cases hs
    · cases hs
  · cases hs
theorem q_n_caload (hF : q_Fx p s m args meth c R M) (hG : q_G E D cid s0) (hY : q_Y s0 s) {len : Nat} (hd : decode M.2.1 pc = .ok (.caload, len)) (hs : q_stepI E M (.caload) len pc ls st h = some (.inl f)) (hbd : c0 ≤ h.2.2.1 ∧ n0 ≤ h.2.2.2 ∧ f.2.2.2.2.2.1 - c0 ≤ R.cells ∧ f.2.2.2.2.2.2 - n0 ≤ R.slots) (hH : q_hp D cid s0.heap.size h H) (hS : va_S (q_A s0) s.heap H locs) (hL : q_L L M.2.2.1 ls) (kk : ∀ (H1 : Heap) (locs1 : List Loc) (L1 : Array Slot), q_hp D cid s0.heap.size f.2.2.2 H1 → va_S (q_A s0) s.heap H1 locs1 → q_L L1 M.2.2.1 f.2.1 → W p l e R s m args below meth c H1 locs1 (f.2.2.2.2.2.1 - c0) (f.2.2.2.2.2.2 - n0) Q (F0 m f.1 L1 f.2.2.1)) : W p l e R s m args below meth c H locs (h.2.2.1 - c0) (h.2.2.2 - n0) Q (F0 m pc L st) := by
  obtain ⟨hx, hb, hr, hml, hown, hts, hlk, hnm, htab, hfr, hlo⟩ := hF
  simp only [q_stepI, q_nx] at hs
  split at hs
  · rename_i i a st1
    split at hs
    · rename_i v hv
      split at hs
      · rename_i hlen
        subst hlen
        cases hs
        rcases q_gI_some hv with ⟨n, g, h1, h2, rfl⟩ | ⟨n, g, h1, h2, rfl⟩
        · exact va_cald hx hb (q_K hG hY) (q_P1 (hH.2 a _ h1).2) 0 3 rfl (q_tys_at cid 3 (by decide)) h2 hd (kk H locs L hH hS hL)
        · exact va_tc hx hb (q_Tat hG hY h1) hS h2 rfl hd (kk H locs L hH hS hL)
      · cases hs
    · cases hs
  · cases hs
theorem q_n_laload (hF : q_Fx p s m args meth c R M) (hG : q_G E D cid s0) (hY : q_Y s0 s) {len : Nat} (hd : decode M.2.1 pc = .ok (.laload, len)) (hs : q_stepI E M (.laload) len pc ls st h = some (.inl f)) (hbd : c0 ≤ h.2.2.1 ∧ n0 ≤ h.2.2.2 ∧ f.2.2.2.2.2.1 - c0 ≤ R.cells ∧ f.2.2.2.2.2.2 - n0 ≤ R.slots) (hH : q_hp D cid s0.heap.size h H) (hS : va_S (q_A s0) s.heap H locs) (hL : q_L L M.2.2.1 ls) (kk : ∀ (H1 : Heap) (locs1 : List Loc) (L1 : Array Slot), q_hp D cid s0.heap.size f.2.2.2 H1 → va_S (q_A s0) s.heap H1 locs1 → q_L L1 M.2.2.1 f.2.1 → W p l e R s m args below meth c H1 locs1 (f.2.2.2.2.2.1 - c0) (f.2.2.2.2.2.2 - n0) Q (F0 m f.1 L1 f.2.2.1)) : W p l e R s m args below meth c H locs (h.2.2.1 - c0) (h.2.2.2 - n0) Q (F0 m pc L st) := by
  obtain ⟨hx, hb, hr, hml, hown, hts, hlk, hnm, htab, hfr, hlo⟩ := hF
  simp only [q_stepI, q_nx] at hs
  split at hs
  · rename_i i a st1
    split at hs
    · rename_i v hv
      split at hs
      · rename_i hlen
        subst hlen
        cases hs
        unfold q_gL at hv
        split at hv
        · rename_i t1 n g hc
          split at hv
          · rename_i e1
            obtain ⟨e1, e2⟩ := e1
            subst e1
            cases hv
            exact va_lald hx hb (q_K hG hY) (q_P1 (hH.2 a _ hc).2) 0 1 rfl (q_tys_at cid 1 (by decide)) e2 hd (kk H locs L hH hS hL)
          · cases hv
        · cases hv
      · cases hs
    · cases hs
  · cases hs
theorem q_n_aaload (hF : q_Fx p s m args meth c R M) (hG : q_G E D cid s0) (hY : q_Y s0 s) {len : Nat} (hd : decode M.2.1 pc = .ok (.aaload, len)) (hs : q_stepI E M (.aaload) len pc ls st h = some (.inl f)) (hbd : c0 ≤ h.2.2.1 ∧ n0 ≤ h.2.2.2 ∧ f.2.2.2.2.2.1 - c0 ≤ R.cells ∧ f.2.2.2.2.2.2 - n0 ≤ R.slots) (hH : q_hp D cid s0.heap.size h H) (hS : va_S (q_A s0) s.heap H locs) (hL : q_L L M.2.2.1 ls) (kk : ∀ (H1 : Heap) (locs1 : List Loc) (L1 : Array Slot), q_hp D cid s0.heap.size f.2.2.2 H1 → va_S (q_A s0) s.heap H1 locs1 → q_L L1 M.2.2.1 f.2.1 → W p l e R s m args below meth c H1 locs1 (f.2.2.2.2.2.1 - c0) (f.2.2.2.2.2.2 - n0) Q (F0 m f.1 L1 f.2.2.1)) : W p l e R s m args below meth c H locs (h.2.2.1 - c0) (h.2.2.2 - n0) Q (F0 m pc L st) := by
  obtain ⟨hx, hb, hr, hml, hown, hts, hlk, hnm, htab, hfr, hlo⟩ := hF
  simp only [q_stepI, q_nx] at hs
  split at hs
  · rename_i i a st1
    split at hs
    · rename_i v hv
      split at hs
      · rename_i hlen
        subst hlen
        cases hs
        unfold q_gQ at hv
        split at hv
        · rename_i t n g hc
          split at hv
          · rename_i e1
            obtain ⟨⟨e0, e1⟩, e2⟩ := e1
            cases hv
            have hc2 : H[a]? = some (arrV (cid t) n (fun j => va_rf (g j))) := q_cell hH hc
            have hlt : i.toNatClampNeg < n := Nat.not_le.mp fun q => e2 (Or.inr q)
            refine W.aald (v := va_rf (g i.toNatClampNeg)) (ty := q_at t) hx hb hc2 (((q_K hG hY).2 t _ (q_tys_at cid t (Nat.lt_succ_of_le e1))).1 n (fun j => va_rf (g j))) ?_ (fun q => by cases q) (by rw [arrV_size]; exact e2) (by rw [arrV_read _ _ hlt]) rfl rfl hd (kk H locs L hH hS hL)
            match t, e0, e1 with
            | 5, _, _ => rfl
            | 6, _, _ => rfl
            | 7, _, _ => rfl
            | 8, _, _ => rfl
          · cases hv
        · cases hv
      · cases hs
    · cases hs
  · cases hs
theorem q_n_iastore (hF : q_Fx p s m args meth c R M) (hG : q_G E D cid s0) (hY : q_Y s0 s) {len : Nat} (hd : decode M.2.1 pc = .ok (.iastore, len)) (hs : q_stepI E M (.iastore) len pc ls st h = some (.inl f)) (hbd : c0 ≤ h.2.2.1 ∧ n0 ≤ h.2.2.2 ∧ f.2.2.2.2.2.1 - c0 ≤ R.cells ∧ f.2.2.2.2.2.2 - n0 ≤ R.slots) (hH : q_hp D cid s0.heap.size h H) (hS : va_S (q_A s0) s.heap H locs) (hL : q_L L M.2.2.1 ls) (kk : ∀ (H1 : Heap) (locs1 : List Loc) (L1 : Array Slot), q_hp D cid s0.heap.size f.2.2.2 H1 → va_S (q_A s0) s.heap H1 locs1 → q_L L1 M.2.2.1 f.2.1 → W p l e R s m args below meth c H1 locs1 (f.2.2.2.2.2.1 - c0) (f.2.2.2.2.2.2 - n0) Q (F0 m f.1 L1 f.2.2.1)) : W p l e R s m args below meth c H locs (h.2.2.1 - c0) (h.2.2.2 - n0) Q (F0 m pc L st) := by
  obtain ⟨hx, hb, hr, hml, hown, hts, hlk, hnm, htab, hfr, hlo⟩ := hF
  simp only [q_stepI, q_nx] at hs
  split at hs
  · rename_i x i a st1
    split at hs
    · rename_i h1 hv
      split at hs
      · rename_i hlen
        subst hlen
        cases hs
        obtain ⟨n, g, h1, h2, rfl⟩ := q_sI_some hv
        have hc := q_cell hH h1
        refine W.iast hx hb hc (((q_K hG hY).2 0 _ (q_tys_at cid 0 (by decide))).1 n (fun j => .int (g j))) (fun q => by cases q) (by show ¬ (i < 0 ∨ (arrV _ _ _).slots.size ≤ _); rw [arrV_size]; exact h2) rfl rfl hd fun H1 e1 e2 e3 => ?_
        refine kk H1 _ L (q_hp_put hH e2 (hH.2 a _ h1).1 e3 ?_) (hS.put e2 e3 (hH.2 a _ h1).1) hL
        show H1[a]? = some (vp_cell _ _)
        rw [e1]
        rw [vp_cell_i, vp_cell_i, arrV_store]
        congr 2
        funext q
        by_cases hq : q = i.toNatClampNeg
        · subst hq
          simp [updV, upd]
        · simp [updV, upd, hq]
      · cases hs
    · cases hs
  · cases hs
theorem q_n_lastore (hF : q_Fx p s m args meth c R M) (hG : q_G E D cid s0) (hY : q_Y s0 s) {len : Nat} (hd : decode M.2.1 pc = .ok (.lastore, len)) (hs : q_stepI E M (.lastore) len pc ls st h = some (.inl f)) (hbd : c0 ≤ h.2.2.1 ∧ n0 ≤ h.2.2.2 ∧ f.2.2.2.2.2.1 - c0 ≤ R.cells ∧ f.2.2.2.2.2.2 - n0 ≤ R.slots) (hH : q_hp D cid s0.heap.size h H) (hS : va_S (q_A s0) s.heap H locs) (hL : q_L L M.2.2.1 ls) (kk : ∀ (H1 : Heap) (locs1 : List Loc) (L1 : Array Slot), q_hp D cid s0.heap.size f.2.2.2 H1 → va_S (q_A s0) s.heap H1 locs1 → q_L L1 M.2.2.1 f.2.1 → W p l e R s m args below meth c H1 locs1 (f.2.2.2.2.2.1 - c0) (f.2.2.2.2.2.2 - n0) Q (F0 m f.1 L1 f.2.2.1)) : W p l e R s m args below meth c H locs (h.2.2.1 - c0) (h.2.2.2 - n0) Q (F0 m pc L st) := by
  obtain ⟨hx, hb, hr, hml, hown, hts, hlk, hnm, htab, hfr, hlo⟩ := hF
  simp only [q_stepI, q_nx] at hs
  split at hs
  · rename_i x i a st1
    split at hs
    · rename_i h1 hv
      split at hs
      · rename_i hlen
        subst hlen
        cases hs
        obtain ⟨n, g, h1, h2, rfl⟩ := q_sL_some hv
        have hc := q_cell hH h1
        refine W.last hx hb hc (((q_K hG hY).2 1 _ (q_tys_at cid 1 (by decide))).1 n (fun j => .long (g j))) (fun q => by cases q) (by show ¬ (i < 0 ∨ (arrV _ _ _).slots.size ≤ _); rw [arrV_size]; exact h2) rfl rfl hd fun H1 e1 e2 e3 => ?_
        refine kk H1 _ L (q_hp_put hH e2 (hH.2 a _ h1).1 e3 ?_) (hS.put e2 e3 (hH.2 a _ h1).1) hL
        show H1[a]? = some (vp_cell _ _)
        rw [e1]
        rw [vp_cell_l, vp_cell_l, arrV_store]
        congr 2
        funext q
        by_cases hq : q = i.toNatClampNeg
        · subst hq
          simp [updV, vp_updL]
        · simp [updV, vp_updL, hq]
      · cases hs
    · cases hs
  · cases hs
theorem q_n_bastore (hF : q_Fx p s m args meth c R M) (hG : q_G E D cid s0) (hY : q_Y s0 s) {len : Nat} (hd : decode M.2.1 pc = .ok (.bastore, len)) (hs : q_stepI E M (.bastore) len pc ls st h = some (.inl f)) (hbd : c0 ≤ h.2.2.1 ∧ n0 ≤ h.2.2.2 ∧ f.2.2.2.2.2.1 - c0 ≤ R.cells ∧ f.2.2.2.2.2.2 - n0 ≤ R.slots) (hH : q_hp D cid s0.heap.size h H) (hS : va_S (q_A s0) s.heap H locs) (hL : q_L L M.2.2.1 ls) (kk : ∀ (H1 : Heap) (locs1 : List Loc) (L1 : Array Slot), q_hp D cid s0.heap.size f.2.2.2 H1 → va_S (q_A s0) s.heap H1 locs1 → q_L L1 M.2.2.1 f.2.1 → W p l e R s m args below meth c H1 locs1 (f.2.2.2.2.2.1 - c0) (f.2.2.2.2.2.2 - n0) Q (F0 m f.1 L1 f.2.2.1)) : W p l e R s m args below meth c H locs (h.2.2.1 - c0) (h.2.2.2 - n0) Q (F0 m pc L st) := by
  obtain ⟨hx, hb, hr, hml, hown, hts, hlk, hnm, htab, hfr, hlo⟩ := hF
  simp only [q_stepI, q_nx] at hs
  split at hs
  · rename_i x i a st1
    split at hs
    · rename_i h1 hv
      split at hs
      · rename_i hlen
        subst hlen
        cases hs
        obtain ⟨n, g, h1, h2, rfl⟩ := q_sI_some hv
        have hc := q_cell hH h1
        refine W.zast hx hb hc (((q_K hG hY).2 2 _ (q_tys_at cid 2 (by decide))).1 n (fun j => .int (g j))) (fun q => by cases q) (by show ¬ (i < 0 ∨ (arrV _ _ _).slots.size ≤ _); rw [arrV_size]; exact h2) rfl rfl hd fun H1 e1 e2 e3 => ?_
        refine kk H1 _ L (q_hp_put hH e2 (hH.2 a _ h1).1 e3 ?_) (hS.put e2 e3 (hH.2 a _ h1).1) hL
        show H1[a]? = some (vp_cell _ _)
        rw [e1]
        rw [vp_cell_i, vp_cell_i, arrV_store]
        congr 2
        funext q
        by_cases hq : q = i.toNatClampNeg
        · subst hq
          simp [updV, upd, narrow, vp_nar]
        · simp [updV, upd, hq]
      · cases hs
    · cases hs
  · cases hs
theorem q_n_castore (hF : q_Fx p s m args meth c R M) (hG : q_G E D cid s0) (hY : q_Y s0 s) {len : Nat} (hd : decode M.2.1 pc = .ok (.castore, len)) (hs : q_stepI E M (.castore) len pc ls st h = some (.inl f)) (hbd : c0 ≤ h.2.2.1 ∧ n0 ≤ h.2.2.2 ∧ f.2.2.2.2.2.1 - c0 ≤ R.cells ∧ f.2.2.2.2.2.2 - n0 ≤ R.slots) (hH : q_hp D cid s0.heap.size h H) (hS : va_S (q_A s0) s.heap H locs) (hL : q_L L M.2.2.1 ls) (kk : ∀ (H1 : Heap) (locs1 : List Loc) (L1 : Array Slot), q_hp D cid s0.heap.size f.2.2.2 H1 → va_S (q_A s0) s.heap H1 locs1 → q_L L1 M.2.2.1 f.2.1 → W p l e R s m args below meth c H1 locs1 (f.2.2.2.2.2.1 - c0) (f.2.2.2.2.2.2 - n0) Q (F0 m f.1 L1 f.2.2.1)) : W p l e R s m args below meth c H locs (h.2.2.1 - c0) (h.2.2.2 - n0) Q (F0 m pc L st) := by
  obtain ⟨hx, hb, hr, hml, hown, hts, hlk, hnm, htab, hfr, hlo⟩ := hF
  simp only [q_stepI, q_nx] at hs
  split at hs
  · rename_i x i a st1
    split at hs
    · rename_i h1 hv
      split at hs
      · rename_i hlen
        subst hlen
        cases hs
        obtain ⟨n, g, h1, h2, rfl⟩ := q_sI_some hv
        have hc := q_cell hH h1
        refine W.cast hx hb hc (((q_K hG hY).2 3 _ (q_tys_at cid 3 (by decide))).1 n (fun j => .int (g j))) (fun q => by cases q) (by show ¬ (i < 0 ∨ (arrV _ _ _).slots.size ≤ _); rw [arrV_size]; exact h2) rfl rfl hd fun H1 e1 e2 e3 => ?_
        refine kk H1 _ L (q_hp_put hH e2 (hH.2 a _ h1).1 e3 ?_) (hS.put e2 e3 (hH.2 a _ h1).1) hL
        show H1[a]? = some (vp_cell _ _)
        rw [e1]
        rw [vp_cell_i, vp_cell_i, arrV_store]
        congr 2
        funext q
        by_cases hq : q = i.toNatClampNeg
        · subst hq
          simp [updV, upd, narrow, vp_nar]
        · simp [updV, upd, hq]
      · cases hs
    · cases hs
  · cases hs
theorem q_n_arraylength (hF : q_Fx p s m args meth c R M) (hG : q_G E D cid s0) (hY : q_Y s0 s) {len : Nat} (hd : decode M.2.1 pc = .ok (.arraylength, len)) (hs : q_stepI E M (.arraylength) len pc ls st h = some (.inl f)) (hbd : c0 ≤ h.2.2.1 ∧ n0 ≤ h.2.2.2 ∧ f.2.2.2.2.2.1 - c0 ≤ R.cells ∧ f.2.2.2.2.2.2 - n0 ≤ R.slots) (hH : q_hp D cid s0.heap.size h H) (hS : va_S (q_A s0) s.heap H locs) (hL : q_L L M.2.2.1 ls) (kk : ∀ (H1 : Heap) (locs1 : List Loc) (L1 : Array Slot), q_hp D cid s0.heap.size f.2.2.2 H1 → va_S (q_A s0) s.heap H1 locs1 → q_L L1 M.2.2.1 f.2.1 → W p l e R s m args below meth c H1 locs1 (f.2.2.2.2.2.1 - c0) (f.2.2.2.2.2.2 - n0) Q (F0 m f.1 L1 f.2.2.1)) : W p l e R s m args below meth c H locs (h.2.2.1 - c0) (h.2.2.2 - n0) Q (F0 m pc L st) := by
  obtain ⟨hx, hb, hr, hml, hown, hts, hlk, hnm, htab, hfr, hlo⟩ := hF
  simp only [q_stepI, q_nx] at hs
  split at hs
  · rename_i a st1
    split at hs
    · rename_i n hv
      split at hs
      · rename_i hlen
        subst hlen
        cases hs
        unfold q_len at hv
        split at hv
        · rename_i t n1 z hc
          split at hv
          · rename_i ht
            cases hv
            exact va_alen hx hb (q_K hG hY) (q_P1 (hH.2 a _ hc).2) 0 t rfl (q_tys_at cid t (Nat.lt_succ_of_le ht)) rfl hd (kk H locs L hH hS hL)
          · cases hv
        · split at hv
          · rename_i ty n1 g hc
            cases hv
            exact va_tlen hx hb (q_Tat hG hY hc) hS rfl hd (kk H locs L hH hS hL)
          · cases hv
        · cases hv
      · cases hs
    · cases hs
  · cases hs
theorem q_cl1_some {a n : Nat} {g : Nat → Int32} (hv : q_cl1 h a = some (n, g)) : h.1 a = some (.inl (4, n, .inl g)) := by
  unfold q_cl1 at hv
  split at hv
  · rename_i n1 g1 hc
    cases hv
    exact hc
  · cases hv
theorem q_fcB (hG : q_G E D cid s0) (hY : q_Y s0 s) : s.vm.findClass "[B" = some (cid 4) := by
  have h6 := ((q_K hG hY).2 4 _ (q_tys_at cid 4 (by decide))).2
  have h7 : s.vm.findClass ("[" ++ FieldType.byte.toString) = some (cid 4) := h6
  have e : ("[" ++ FieldType.byte.toString) = "[B" := by decide
  rw [e] at h7
  exact h7
theorem q_n_checkcast {ix : Nat} (hF : q_Fx p s m args meth c R M) (hG : q_G E D cid s0) (hY : q_Y s0 s) {len : Nat} (hd : decode M.2.1 pc = .ok (.checkcast ix, len)) (hs : q_stepI E M (.checkcast ix) len pc ls st h = some (.inl f)) (hbd : c0 ≤ h.2.2.1 ∧ n0 ≤ h.2.2.2 ∧ f.2.2.2.2.2.1 - c0 ≤ R.cells ∧ f.2.2.2.2.2.2 - n0 ≤ R.slots) (hH : q_hp D cid s0.heap.size h H) (hS : va_S (q_A s0) s.heap H locs) (hL : q_L L M.2.2.1 ls) (kk : ∀ (H1 : Heap) (locs1 : List Loc) (L1 : Array Slot), q_hp D cid s0.heap.size f.2.2.2 H1 → va_S (q_A s0) s.heap H1 locs1 → q_L L1 M.2.2.1 f.2.1 → W p l e R s m args below meth c H1 locs1 (f.2.2.2.2.2.1 - c0) (f.2.2.2.2.2.2 - n0) Q (F0 m f.1 L1 f.2.2.1)) : W p l e R s m args below meth c H locs (h.2.2.1 - c0) (h.2.2.2 - n0) Q (F0 m pc L st) := by
  obtain ⟨hx, hb, hr, hml, hown, hts, hlk, hnm, htab, hfr, hlo⟩ := hF
  simp only [q_stepI, q_nx] at hs
  split at hs
  · rename_i a st1 pos hq
    split at hs
    · rename_i n g hv
      split at hs
      · rename_i hlen
        obtain ⟨hlen, ho⟩ := hlen
        subst hlen
        cases hs
        exact va_castA hx hb hown (q_word hts (q_ckc_ok _ ho _ (q_lk_mem hq)) rfl) (q_P1 (hH.2 a _ (q_cl1_some hv)).2) 0 rfl (q_fcB hG hY) hd (kk H locs L hH hS hL)
      · cases hs
    · cases hs
  · cases hs
end QM
