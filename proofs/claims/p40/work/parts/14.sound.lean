/-! the main induction: what the abstract machine runs, the machine runs -/
theorem q_grow_end {E : q_E} {M : q_M} {i : Instr} {len pc : Nat} {ls st : List Value} {h : q_H} {r : q_R} {h' : q_H} (hs : q_stepI E M i len pc ls st h = some (.inr (.inr (r, h')))) : h.2.2.1 ≤ h'.2.2.1 ∧ h.2.2.2 ≤ h'.2.2.2 := by
  rcases q_end_inv hs with ⟨v, -, rfl, -⟩ | ⟨x, ix, ic, ps, -, -, -, rfl, -⟩
  · exact ⟨Nat.le_refl _, Nat.le_refl _⟩
  · exact ⟨Nat.le_succ _, Nat.le_add_right _ _⟩
theorem q_run_grow (E : q_E) : ∀ (n : Nat) (M : q_M) (pc : Nat) (ls st : List Value) (h : q_H) (r : q_R) (h' : q_H), q_run E n M pc ls st h = some (r, h') → h.2.2.1 ≤ h'.2.2.1 ∧ h.2.2.2 ≤ h'.2.2.2
  | 0, _, _, _, _, _, _, _, hr => by cases hr
  | n + 1, M, pc, ls, st, h, r, h', hr => by
    have hr : (q_step E M pc ls st h).bind (q_k (q_run E n) M pc ls h) = some (r, h') := hr
    cases e : q_step E M pc ls st h with
    | none => rw [e] at hr; cases hr
    | some x =>
      rw [e] at hr
      have hr : q_k (q_run E n) M pc ls h x = some (r, h') := hr
      unfold q_step at e
      split at e
      · rename_i i len hd
        match x, hr, e with
        | .inl f, hr, e =>
          have g1 := q_grow e
          have g2 := q_run_grow E n _ _ _ _ _ _ _ (hr : q_run E n M f.1 f.2.1 f.2.2.1 f.2.2.2 = some (r, h'))
          exact ⟨Nat.le_trans g1.1 g2.1, Nat.le_trans g1.2 g2.2⟩
        | .inr (.inr q), hr, e =>
          cases hr
          exact q_grow_end e
        | .inr (.inl q), hr, e =>
          have hr : q_bk (q_run E n) M pc ls q.2.1 q.2.2.2 (q_run E n q.1 0 (q_ent q.1 q.2.2.1) [] h) = some (r, h') := hr
          cases e1 : q_run E n q.1 0 (q_ent q.1 q.2.2.1) [] h with
          | none => rw [e1] at hr; cases hr
          | some y =>
            rw [e1] at hr
            obtain ⟨r1, h1⟩ := y
            have g1 := q_run_grow E n _ _ _ _ _ _ _ e1
            have g2 : h1.2.2.1 ≤ h'.2.2.1 ∧ h1.2.2.2 ≤ h'.2.2.2 := by
              unfold q_bk at hr
              match r1, hr with
              | .inl v, hr => exact q_run_grow E n _ _ _ _ _ _ _ hr
              | .inr z, hr =>
                dsimp only at hr
                split at hr
                · cases hr
                split at hr
                · cases hr
                · cases hr; exact ⟨Nat.le_refl _, Nat.le_refl _⟩
                · split at hr
                  · cases hr
                  · exact q_run_grow E n _ _ _ _ _ _ _ hr
            exact ⟨Nat.le_trans g1.1 g2.1, Nat.le_trans g1.2 g2.2⟩
      · cases e
theorem q_hd1_inv {o : Nat} {x : String} {pc hp : Nat} : ∀ {l : List (Nat × Nat × Nat × Nat)}, q_hd1 o x pc l = some hp → ∃ pre a b ci suf ps, l = pre ++ (a, b, hp, ci) :: suf ∧ (a ≤ pc ∧ pc < b) ∧ q_lk (q_hc o) ci = some (x, ps) ∧ q_lk' q_cst x = true ∧ ¬ ci = 0 ∧
    ∀ z ∈ pre, ¬ (z.1 ≤ pc ∧ pc < z.2.1) ∨ (¬ z.2.2.2 = 0 ∧ ∃ nm ps, q_lk (q_hc o) z.2.2.2 = some (nm, ps) ∧ q_ncb x nm = true)
  | [], h => by cases h
  | (a, b, hp1, ci) :: t, h => by
    unfold q_hd1 at h
    split at h
    · rename_i hab
      split at h
      · rename_i nm ps hq
        split at h
        · rename_i hnm
          subst hnm
          split at h
          · rename_i hc
            cases h
            exact ⟨[], a, b, ci, t, ps, rfl, hab, hq, hc.1, hc.2, fun z hz => by cases hz⟩
          · cases h
        · split at h
          · rename_i hc
            obtain ⟨pre, a1, b1, c1, suf, ps1, e1, e2, e3, e4, e5, e6⟩ := q_hd1_inv h
            refine ⟨(a, b, hp1, ci) :: pre, a1, b1, c1, suf, ps1, by rw [e1]; rfl, e2, e3, e4, e5, fun z hz => ?_⟩
            rcases List.mem_cons.mp hz with k | k
            · subst k; exact Or.inr ⟨hc.2, nm, ps, hq, hc.1⟩
            · exact e6 z k
          · cases h
      · cases h
    · rename_i hab
      obtain ⟨pre, a1, b1, c1, suf, ps1, e1, e2, e3, e4, e5, e6⟩ := q_hd1_inv h
      refine ⟨(a, b, hp1, ci) :: pre, a1, b1, c1, suf, ps1, by rw [e1]; rfl, e2, e3, e4, e5, fun z hz => ?_⟩
      rcases List.mem_cons.mp hz with k | k
      · subst k; exact Or.inl hab
      · exact e6 z k
section QZ
variable {p : Program} {l : Launch} {e : Env} {R : Room} {s s0 : State} {m : MethodId} {args : Array Value} {below : List Frame} {meth : Method} {c : Code} {H : Heap} {locs : List Loc} {Q : State → Prop} {cells slots mc ms : Nat} {rest : List Value}
variable {E : q_E} {D : va_G} {cid : Nat → ClassId} {M M' : q_M} {pc : Nat} {ls st vs : List Value} {h h' : q_H} {L : Array Slot} {f : q_F} {c0 n0 n : Nat} {r : q_R}
def q_Snd (l : Launch) (E : q_E) (D : va_G) (cid : Nat → ClassId) (s0 : State) (n : Nat) : Prop :=
  ∀ (M : q_M) (pc : Nat) (ls st : List Value) (h : q_H) (r : q_R) (h' : q_H), q_run E n M pc ls st h = some (r, h') →
    ∀ (p : Program) (e : Env) (R : Room) (s : State) (m : MethodId) (args : Array Value) (below : List Frame) (meth : Method) (c : Code) (H : Heap) (locs : List Loc) (L : Array Slot) (Q : State → Prop) (c0 n0 : Nat),
      q_Fx p s m args meth c R M → q_Y s0 s → c0 ≤ h.2.2.1 → n0 ≤ h.2.2.2 → h'.2.2.1 - c0 ≤ R.cells → h'.2.2.2 - n0 ≤ R.slots → q_hp D cid s0.heap.size h H → va_S (q_A s0) s.heap H locs → q_L L M.2.2.1 ls →
      q_End p l e R s s0 m args below meth c Q D cid M c0 n0 r h' → W p l e R s m args below meth c H locs (h.2.2.1 - c0) (h.2.2.2 - n0) Q (F0 m pc L st)
theorem q_frame {s₁ : State} (hM : q_mok M) (B : BodyLoose p l M.1 (headSpec (q_ws M) (q_rm M mc ms)) M.2.1 M.2.2.1 (q_ret M) e s m args below meth c s₁) (hml : c.maxLocals = M.2.2.1) (htab : c.exceptionTable.toList = tableOf (q_hnd M)) : q_Fx p s m args meth c (headSpec (q_ws M) (q_rm M mc ms)).room M := by
  have hts := atoms_spec (ws := q_ws M) B.pre
  have hn := findClass_of_methodNamed B.named
  rw [hM.2.2.1] at hn
  exact ⟨B.exec, B.bytes, B.returns, hml, hn, fun w h1 h2 => hts w (List.mem_cons_of_mem _ (List.mem_filter.mpr ⟨h1, h2⟩)), B.notSynchronized, fun h => (name_of_methodNamed B.named B.method).1.trans h, fun _ => htab, Nat.le_refl _, Nat.le_refl _⟩
/-- from a method's entry on -/
theorem q_enter (hSn : q_Snd l E D cid s0 n) (hr : q_run E n M 0 (q_ent M vs) [] h = some (r, h')) (hlen : (q_exp vs).length ≤ M.2.2.1) (hF : q_Fx p s m vs.toArray meth c R M) (hY : q_Y s0 s) (hRc : h'.2.2.1 - h.2.2.1 ≤ R.cells) (hRs : h'.2.2.2 - h.2.2.2 ≤ R.slots) (hH : q_hp D cid s0.heap.size h s.heap) (hE : q_End p l e R s s0 m vs.toArray below meth c Q D cid M h.2.2.1 h.2.2.2 r h') :
    W p l e R s m vs.toArray below meth c s.heap [] 0 0 Q (entryFrame m vs.toArray M.2.2.1) := by
  rw [lg_entry_eq]
  have hl := lv_entry vs (n := M.2.2.1) (by rw [← q_exp_len]; exact hlen)
  have k := hSn M 0 (q_ent M vs) [] h r h' hr p e R s m vs.toArray below meth c s.heap [] _ Q h.2.2.1 h.2.2.2 hF hY (Nat.le_refl _) (Nat.le_refl _) hRc hRs hH va_S.rf (q_entL hlen hl) hE
  rw [Nat.sub_self, Nat.sub_self] at k
  exact k
theorem q_ctX (hSn : q_Snd l E D cid s0 n) (hG : q_G E D cid s0) (hlt : l.stackTraces = false) (hM : q_mok M) (hnil : q_hnd M = []) (hlen : (q_exp vs).length ≤ M.2.2.1) (hr : q_run E n M 0 (q_ent M vs) [] h = some (r, h')) :
    vx_Met l M.1 (q_ws M) (q_rm M (h'.2.2.1 - h.2.2.1) (h'.2.2.2 - h.2.2.2)) (q_Pc D cid s0 vs h) (q_Qc D cid s0 r h') (q_XC D cid s0 r h') (h'.2.2.1 - h.2.2.1) (h'.2.2.2 - h.2.2.2) (q_A s0) := by
  refine vx_ofW (cc := M.2.1) (maxL := M.2.2.1) (ret := q_ret M) hM.2.1 (by unfold q_ws; rw [q_cw_nil hnil]) ?_
  intro p e s m args below meth c s₁ B hml htab hv
  obtain ⟨rfl, hY, hH⟩ := hv
  have ht2 : c.exceptionTable.toList = tableOf (q_hnd M) := by rw [hnil]; exact List.eq_nil_iff_forall_not_mem.mpr fun x hx => htab x hx
  have hF := q_frame hM B hml ht2
  exact q_enter hSn hr hlen hF hY (Nat.le_refl _) (Nat.le_refl _) hH (q_end_meth hF ht2 hG hY hlt (Nat.le_refl _) (Nat.le_refl _))
theorem q_ctW (hSn : q_Snd l E D cid s0 n) (hG : q_G E D cid s0) (hlt : l.stackTraces = false) (hM : q_mok M) {a : Nat × Nat × Nat × Nat} {b : List (Nat × Nat × Nat × Nat)} (hnil : q_hnd M = a :: b) (hlen : (q_exp vs).length ≤ M.2.2.1) (hr : q_run E n M 0 (q_ent M vs) [] h = some (r, h')) :
    vx_Met l M.1 (q_ws M) (q_rm M (h'.2.2.1 - h.2.2.1) (h'.2.2.2 - h.2.2.2)) (q_Pc D cid s0 vs h) (q_Qc D cid s0 r h') (q_XC D cid s0 r h') (h'.2.2.1 - h.2.2.1) (h'.2.2.2 - h.2.2.2) (q_A s0) := by
  refine vx_ofWH (cc := M.2.1) (maxL := M.2.2.1) (ret := q_ret M) (hh := q_hnd M) hM.2.1 (by unfold q_ws; rw [q_cw_cons hnil]) ?_
  intro p e s m args below meth c s₁ B hml hv
  obtain ⟨rfl, hY, hH⟩ := hv
  have hts := atoms_spec (ws := q_ws M) B.pre
  have hw : (Cond.codeWith M.1 M.2.1 M.2.2.1 (q_ret M) (q_hnd M)).before vs.toArray s = true := by
    rw [← q_cw_cons hnil]
    exact hts _ List.mem_cons_self
  have ht2 := vx_table (x := M.1) B hw
  have hF := q_frame hM B hml ht2
  exact q_enter hSn hr hlen hF hY (Nat.le_refl _) (Nat.le_refl _) hH (q_end_meth hF ht2 hG hY hlt (Nat.le_refl _) (Nat.le_refl _))
theorem q_ctI (hSn : q_Snd l E D cid s0 n) (hM : q_mok M) (hnil : q_hnd M = []) (hlen : (q_exp vs).length ≤ M.2.2.1) {v : Option Value} (hr : q_run E n M 0 (q_ent M vs) [] h = some (.inl v, h')) :
    Met l M.1 (q_ws M) (q_rm M (h'.2.2.1 - h.2.2.1) (h'.2.2.2 - h.2.2.2)) (q_Pc D cid s0 vs h) (q_Qc D cid s0 (.inl v) h') (h'.2.2.1 - h.2.2.1) (h'.2.2.2 - h.2.2.2) (q_A s0) := by
  refine Met.ofW (cc := M.2.1) (maxL := M.2.2.1) (ret := q_ret M) hM.2.1 (by unfold q_ws; rw [q_cw_nil hnil]) ?_
  intro p e s m args below meth c s₁ B hml hv
  obtain ⟨rfl, hY, hH⟩ := hv
  have hbt : c.exceptionTable.toList = tableOf (q_hnd M) := by
    have hts := atoms_spec (ws := q_ws M) B.pre
    have hw := hts _ List.mem_cons_self
    rw [q_cw_nil hnil] at hw
    obtain ⟨meth9, c9, h1, h2, -, -, -, -, h7, -⟩ := Cond.code_spec B.named hw
    cases Option.some.inj (h1.symm.trans B.method)
    cases Option.some.inj (h2.symm.trans (Stand.of_body B).code)
    rw [hnil, Array.isEmpty_iff.mp h7]
    rfl
  have hF := q_frame hM B hml hbt
  refine q_enter hSn hr hlen hF hY (Nat.le_refl _) (Nat.le_refl _) hH ?_
  obtain ⟨hx, hb, hr2, hml2, hown, hts, hlk, hnm, htab, hfr, hlo⟩ := hF
  refine ⟨fun v1 hv H1 locs1 L1 pc1 i hH hS hd hi => ?_, fun x hxr => (nomatch hxr), fun x hxr => (nomatch hxr)⟩
  cases hv
  match v, hi with
  | none, hi =>
    obtain ⟨rfl, hret⟩ := hi
    exact W.vret hx hb (hr2.trans hret) (fun t ht hW => ⟨⟨none, rfl, rfl⟩, hS.F ht, by rw [ht]; exact hH⟩) hS.2.2 hd hlk
  | some (.int z), hi =>
    obtain ⟨rfl, ty, hret, hn⟩ := hi
    exact W.zret hx hb (hr2.trans hret) hn (fun t ht hW => ⟨⟨_, rfl, rfl⟩, hS.F ht, by rw [ht]; exact hH⟩) hS.2.2 hd hlk
  | some (.long z), hi =>
    obtain ⟨rfl, hret⟩ := hi
    exact W.lret hx hb (hr2.trans hret) (fun t ht hW => ⟨⟨_, rfl, rfl⟩, hS.F ht, by rw [ht]; exact hH⟩) hS.2.2 hd hlk
  | some (.float z), hi =>
    obtain ⟨rfl, hret⟩ := hi
    exact W.fret hx hb (hr2.trans hret) (fun t ht hW => ⟨⟨_, rfl, rfl⟩, hS.F ht, by rw [ht]; exact hH⟩) hS.2.2 hd hlk
  | some (.double z), hi =>
    obtain ⟨rfl, hret⟩ := hi
    exact W.dret hx hb (hr2.trans hret) (fun t ht hW => ⟨⟨_, rfl, rfl⟩, hS.F ht, by rw [ht]; exact hH⟩) hS.2.2 hd hlk
  | some (.ref z), hi =>
    obtain ⟨rfl, rt, hret, hrt⟩ := hi
    exact W.aret hx hb (hr2.trans hret) hrt (Or.inr ⟨_, rfl⟩) (fun t ht hW => ⟨⟨_, rfl, rfl⟩, hS.F ht, by rw [ht]; exact hH⟩) hS.2.2 hd hlk
end QZ
