/-! what the abstract machine runs, the machine runs -/
section QX
variable {p : Program} {l : Launch} {e : Env} {R : Room} {s s0 : State} {m : MethodId} {args : Array Value} {below : List Frame} {meth : Method} {c : Code} {H : Heap} {locs : List Loc} {Q : State → Prop} {cells slots mc ms : Nat} {rest : List Value}
variable {E : q_E} {D : va_G} {cid : Nat → ClassId} {M M' : q_M} {pc : Nat} {ls st vs : List Value} {h h' h1 : q_H} {L : Array Slot} {f : q_F} {c0 n0 n : Nat} {r r1 : q_R}
theorem q_set_null {k : List Value} {i : Nat} {w : Value} (hj : (k.set i .null)[i]? = some w) : w = .null := by
  rw [List.getElem?_set, if_pos rfl] at hj
  split at hj
  · cases hj; rfl
  · cases hj
theorem q_st1_null {i : Nat} {v : Value} (hL : q_L L M.2.2.1 (q_st1 ls i v)) : q_L L M.2.2.1 (q_st1 ls i .null) := by
  refine ⟨by rw [q_st1_len]; exact (q_st1_len ls i v).symm.trans hL.1, hL.2.1, hL.2.2.1, fun j w hj hw => ?_⟩
  by_cases hji : j = i
  · exfalso
    subst hji
    cases j with
    | zero =>
      simp only [q_st1] at hj
      exact hw (q_set_null hj)
    | succ k =>
      simp only [q_st1] at hj
      exact hw (q_set_null hj)
  · refine hL.2.2.2 j w ?_ hw
    rw [← hj]
    cases i with
    | zero => simp only [q_st1]; rw [List.getElem?_set_ne (Ne.symm hji), List.getElem?_set_ne (Ne.symm hji)]
    | succ k => simp only [q_st1]; rw [List.getElem?_set_ne (Ne.symm hji), List.getElem?_set_ne (Ne.symm hji)]
/-- caught: the handler puts what was thrown away and goes on -/
theorem q_caught (hF : q_Fx p s m args meth c R M) (hG : q_G E D cid s0) (hY : q_Y s0 s) {x : String} {hp pc1 : Nat} {ls1 : List Value} (hh : q_hd M x pc (q_hnd M) = some (some hp)) (ht : q_hst M hp ls = some (pc1, ls1)) (hL : q_L L M.2.2.1 ls) {q : Addr} {ce : Cell} (hce : H[q]? = some ce) (hcv : ce.vm = .none) (hcl : s.vm.findClass x = some ce.cls)
    (kk : ∀ L1 : Array Slot, q_L L1 M.2.2.1 ls1 → W p l e R s m args below meth c H locs cells slots Q (F0 m pc1 L1 [])) : vx_W p l e R s m args below meth c H locs cells slots Q (F0 m pc L rest) q := by
  obtain ⟨hx, hb, hr, hml, hown, hts, hlk, hnm, htab, hfr, hlo⟩ := hF
  have hh2 : q_own M = 9 ∧ q_hd1 9 x pc (q_hnd M) = some hp := by
    cases hnil : q_hnd M with
    | nil => rw [hnil] at hh; cases hh
    | cons a b =>
      rw [hnil] at hh
      unfold q_hd at hh
      split at hh
      · cases hh
      · split at hh
        · rename_i h9
          split at hh
          · rename_i hp2 e2
            cases hh
            exact ⟨h9, e2⟩
          · cases hh
        · cases hh
  obtain ⟨h9, hh2⟩ := hh2
  obtain ⟨pre, a, b, ci, suf, ps, e1, e2, e3, e4, e5, e6⟩ := q_hd1_inv hh2
  rw [h9] at hown
  have htab := htab (by rw [e1]; simp)
  rw [e1] at htab
  have hlink : ∀ {ci nm ps}, q_lk (q_hc 9) ci = some (nm, ps) → (Cond.classLink (q_nm 9) ci nm).before args s = true := fun {ci nm ps} h => q_word hts (q_hc_ok _ (q_lk_mem h)) rfl
  have hcast : (Cond.castable x x).before args s = true := by
    unfold q_lk' at e4
    obtain ⟨z, hz, hz2⟩ := List.any_eq_true.mp e4
    have hz3 : z.1 = x := by simpa using hz2
    have := q_cst_ok z hz
    rw [hz3] at this
    exact q_carry hG hY hts (List.mem_of_getElem? this) rfl
  have htab2 : c.exceptionTable.toList = tableOf pre ++ ⟨a, b, hp, ci⟩ :: tableOf suf := by
    rw [htab]
    unfold tableOf
    rw [List.map_append, List.map_cons]
  refine vx_catch hown (tableOf pre) ⟨a, b, hp, ci⟩ (tableOf suf) htab2 (fun z hz => ?_) ?_ e5 (hlink e3) hcast hce hcv hcl ?_
  · obtain ⟨y, hy, rfl⟩ := List.mem_map.mp hz
    rcases e6 y hy with k | ⟨k1, nm, ps2, k2, k3⟩
    · refine Or.inl ?_
      show (decide (y.1 ≤ pc) && decide (pc < y.2.1)) = false
      by_cases k4 : y.1 ≤ pc
      · rw [decide_eq_true k4, Bool.true_and]
        exact decide_eq_false fun k5 => k ⟨k4, k5⟩
      · rw [decide_eq_false k4, Bool.false_and]
    · exact Or.inr ⟨k1, nm, hlink k2, (hG.2.2.2.2.2.2.2.1 x nm k3).moved hY.1.alike⟩
  · show (decide (a ≤ pc) && decide (pc < b)) = true
    rw [decide_eq_true e2.1, decide_eq_true e2.2]
    rfl
  · show W p l e R s m args below meth c H locs cells slots Q (F0 m hp L [.ref q])
    unfold q_hst at ht
    split at ht
    · rename_i k hd
      split at ht
      · rename_i hk
        cases ht
        exact lv_astore_n hx hb hd rfl hL.has (hL.1 ▸ hk) rfl (fun L1 h1 => kk L1 (q_st1_null (q_L.st1 hL.1 h1)))
      · cases ht
    · rename_i k hd
      split at ht
      · rename_i hk
        cases ht
        exact lv_astore hx hb hd hL.has (hL.1 ▸ hk) rfl (fun L1 h1 => kk L1 (q_st1_null (q_L.st1 hL.1 h1)))
      · cases ht
    · cases ht
theorem q_sound (hG : q_G E D cid s0) (hlt : l.stackTraces = false) : ∀ n, q_Snd l E D cid s0 n
  | 0 => fun _ _ _ _ _ _ _ hr => by cases hr
  | n + 1 => by
    have ih := q_sound hG hlt n
    intro M pc ls st h r h' hr p e R s m args below meth c H locs L Q c0 n0 hF hY hc0 hn0 hRc hRs hH hS hL hE
    have hr : (q_step E M pc ls st h).bind (q_k (q_run E n) M pc ls h) = some (r, h') := hr
    cases ex : q_step E M pc ls st h with
    | none => rw [ex] at hr; cases hr
    | some x =>
      rw [ex] at hr
      have hr : q_k (q_run E n) M pc ls h x = some (r, h') := hr
      unfold q_step at ex
      split at ex
      · rename_i i len hd
        match x, hr, ex with
        | .inl f, hr, ex =>
          have hr : q_run E n M f.1 f.2.1 f.2.2.1 f.2.2.2 = some (r, h') := hr
          have g1 := q_grow ex
          have g2 := q_run_grow E n _ _ _ _ _ _ _ hr
          refine q_next hF hG hY hd ex ⟨hc0, hn0, by omega, by omega⟩ hH hS hL (fun H1 locs1 L1 hH1 hS1 hL1 => ?_)
          exact ih M f.1 f.2.1 f.2.2.1 f.2.2.2 r h' hr p e R s m args below meth c H1 locs1 L1 Q c0 n0 hF hY (Nat.le_trans hc0 g1.1) (Nat.le_trans hn0 g1.2) hRc hRs hH1 hS1 hL1 hE
        | .inr (.inr q), hr, ex =>
          have hq : q = (r, h') := Option.some.inj hr
          subst hq
          rcases q_end_inv ex with ⟨v, rfl, rfl, rfl, hi, rfl⟩ | ⟨z, ix, ic, ps, rfl, rfl, rfl, rfl, k1, k2, k3, k4, k5, k6⟩
          · exact hE.1 v rfl H locs L pc i hH hS hd hi
          · exact hE.2.1 z rfl H locs L pc st h ix ic ps rfl hc0 hn0 hH hS (hL.2.1.trans hF.2.2.2.1.symm) k1 k2 hd k3 k4 k5 k6
        | .inr (.inl (M', j, vs, rest)), hr, ex =>
          have hr : q_bk (q_run E n) M pc ls j rest (q_run E n M' 0 (q_ent M' vs) [] h) = some (r, h') := hr
          cases er : q_run E n M' 0 (q_ent M' vs) [] h with
          | none => rw [er] at hr; cases hr
          | some y =>
            obtain ⟨r1, h1⟩ := y
            rw [er] at hr
            have g1 := q_run_grow E n _ _ _ _ _ _ _ er
            have g2 : h1.2.2.1 ≤ h'.2.2.1 ∧ h1.2.2.2 ≤ h'.2.2.2 := by
              unfold q_bk at hr
              match r1, hr with
              | .inl v, hr => exact q_run_grow E n _ _ _ _ _ _ _ hr
              | .inr z, hr =>
                dsimp only at hr
                split at hr
                · cases hr
                split at hr
                · cases hr
                · cases hr; exact ⟨Nat.le_refl _, Nat.le_refl _⟩
                · split at hr
                  · cases hr
                  · exact q_run_grow E n _ _ _ _ _ _ _ hr
            have ec : h.2.2.1 - c0 + (h1.2.2.1 - h.2.2.1) = h1.2.2.1 - c0 := by omega
            have es : h.2.2.2 - n0 + (h1.2.2.2 - h.2.2.2) = h1.2.2.2 - n0 := by omega
            refine q_callW ih hG hlt hF hY hH hS (hL.2.1.trans hF.2.2.2.1.symm) hd ex er (fun hj => ?_) (by omega) (by omega) (fun v hv H1 locs1 hH1 hS1 => ?_) (fun z hz H1 locs1 q ce hH1 hS1 hce hcv hcl => ?_)
            · match r1, hr with
              | .inl v, _ => exact ⟨v, rfl⟩
              | .inr z, hr =>
                unfold q_bk at hr
                dsimp only at hr
                rw [if_pos hj] at hr
                cases hr
            · subst hv
              rw [ec, es]
              exact ih M (pc + 3) ls (v.toList ++ rest) h1 r h' hr p e R s m args below meth c H1 locs1 L Q c0 n0 hF hY (Nat.le_trans hc0 g1.1) (Nat.le_trans hn0 g1.2) hRc hRs hH1 hS1 hL hE
            · subst hz
              rw [ec, es]
              unfold q_bk at hr
              dsimp only at hr
              split at hr
              · cases hr
              split at hr
              · cases hr
              · rename_i hnn
                cases hr
                have hnil : q_hnd M = [] := by
                  cases hnil : q_hnd M with
                  | nil => rfl
                  | cons a b =>
                    rw [hnil] at hnn
                    unfold q_hd at hnn
                    split at hnn
                    · rename_i e9; cases e9
                    · split at hnn
                      · split at hnn <;> cases hnn
                      · cases hnn
                exact hE.2.2 z rfl H1 locs1 L pc rest q ce hH1 hS1 hce hcv hcl hnil
              · rename_i hp hhd
                split at hr
                · cases hr
                · rename_i pc1 ls1 hst
                  exact q_caught hF hG hY hhd hst hL hce hcv hcl (fun L1 hL1 => ih M pc1 ls1 [] h1 r h' hr p e R s m args below meth c H1 locs1 L1 Q c0 n0 hF hY (Nat.le_trans hc0 g1.1) (Nat.le_trans hn0 g1.2) hRc hRs hH1 hS1 hL1 hE)
      · cases ex
end QX
