/-! throws, contracts, and the main induction -/
/-- the exceptions of the class alone -/
def q_rte : List String := ["java/lang/RuntimeException", "java/lang/Exception"]
def q_wk : Cond → Bool
  | .declares _ => true
  | .castable _ _ => true
  | w => goodWord w
set_option maxRecDepth 100000 in
theorem q_at0 : ∀ x ∈ q_exc 7, ∀ w ∈ (Cond.classLink RX7 x.1 x.2.1 :: Cond.initialized x.2.1 :: vx_at0 RX7 x.2.2.1 x.2.1 q_rte), w ∈ lw_tbl ∧ q_wk w = true ∧ vx_ot w = true := by decide +kernel
theorem q_at1 : ∀ x ∈ q_exc 7, Bundle.fit x.2.1 = true ∧ (∀ n ∈ q_rte, Bundle.fit n = true) := by decide +kernel
theorem q_exc7 : ∀ o, o < 10 → ∀ x ∈ q_exc o, o = 7 := by
  intro o ho x hx
  match o, ho with
  | 7, _ => rfl
  | 0, _ => exact absurd hx List.not_mem_nil
  | 1, _ => exact absurd hx List.not_mem_nil
  | 2, _ => exact absurd hx List.not_mem_nil
  | 3, _ => exact absurd hx List.not_mem_nil
  | 4, _ => exact absurd hx List.not_mem_nil
  | 5, _ => exact absurd hx List.not_mem_nil
  | 6, _ => exact absurd hx List.not_mem_nil
  | 8, _ => exact absurd hx List.not_mem_nil
  | 9, _ => exact absurd hx List.not_mem_nil
section QV
variable {p : Program} {l : Launch} {e : Env} {R : Room} {s s0 : State} {m : MethodId} {args : Array Value} {below : List Frame} {meth : Method} {c : Code} {H : Heap} {locs : List Loc} {Q : State → Prop} {cells slots mc ms : Nat} {rest : List Value}
variable {E : q_E} {D : va_G} {cid : Nat → ClassId} {M M' : q_M} {pc : Nat} {ls st vs : List Value} {h h' : q_H} {L : Array Slot} {f : q_F} {c0 n0 : Nat} {r : q_R}
/-- a word of the tables, carried to a later state -/
theorem q_carry (hG : q_G E D cid s0) (hY : q_Y s0 s) (hts : ∀ w ∈ lw_tbl, goodWord w = true → w.before args s = true) {w : Cond} (hw : w ∈ lw_tbl) (hk : q_wk w = true) : w.before args s = true := by
  unfold q_wk at hk
  split at hk
  · rename_i y
    have h0 := hG.2.2.2.2.1 _ hw rfl
    have h1 : (Cond.declares y).before #[] (s0.setVm s.vm) = true := by
      rw [Cond.declares_setVm hY.1.alike]
      exact h0
    exact va_tabs rfl (rfl : (s0.setVm s.vm).vm = s.vm) h1
  · rename_i y z
    have h0 := hG.2.2.2.2.1 _ hw rfl
    have h1 : (Cond.castable y z).before #[] (s0.setVm s.vm) = true := by
      rw [Cond.castable_setVm hY.1.alike]
      exact h0
    exact va_tabs rfl (rfl : (s0.setVm s.vm).vm = s.vm) h1
  · exact hts w hw hk
theorem q_thr_at {ic : Nat} (ht : q_thr M pc ic = true) : decode M.2.1 (pc + 3) = .ok (.dup, 1) ∧ decode M.2.1 (pc + 4) = .ok (.invokespecial ic, 3) ∧ decode M.2.1 (pc + 7) = .ok (.athrow, 1) := by
  unfold q_thr at ht
  split at ht
  · rename_i k a1 a2 a3
    rw [Nat.eq_of_beq_eq_true ht] at a2
    exact ⟨a1, a2, a3⟩
  · cases ht
/-- a method's own end -/
theorem q_end_meth (hF : q_Fx p s m args meth c R M) (htab : c.exceptionTable.toList = tableOf (q_hnd M)) (hG : q_G E D cid s0) (hY : q_Y s0 s) (hlt : l.stackTraces = false) (hRc : h'.2.2.1 - h.2.2.1 ≤ R.cells) (hRs : h'.2.2.2 - h.2.2.2 ≤ R.slots) :
    q_End p l e R s s0 m args below meth c (vx_MQ below (q_Qc D cid s0 r h') (q_XC D cid s0 r h') args s (h'.2.2.1 - h.2.2.1) (h'.2.2.2 - h.2.2.2) (q_A s0)) D cid M h.2.2.1 h.2.2.2 r h' := by
  obtain ⟨hx, hb, hr, hml, hown, hts, hlk, hnm, -, hfr, hlo⟩ := hF
  refine ⟨fun v hv H1 locs1 L1 pc1 i hH hS hd hi => ?_, fun x hxr H1 locs1 L1 pc1 st1 h1 ix ic ps he hc1 hn1 hH hS hsz ho hq hd hth hnil hcat hgt => ?_, fun x hxr H1 locs1 L1 pc1 st1 q ce hH hS hce hcv hcl hnil => ?_⟩
  · refine vx_ret ?_
    match v, hi with
    | none, hi =>
      obtain ⟨rfl, hret⟩ := hi
      exact W.vret hx hb (hr.trans hret) (fun t ht hW => ⟨⟨none, hv, rfl⟩, hS.F ht, by rw [ht]; exact hH⟩) hS.2.2 hd hlk
    | some (.int z), hi =>
      obtain ⟨rfl, ty, hret, hn⟩ := hi
      exact W.zret hx hb (hr.trans hret) hn (fun t ht hW => ⟨⟨_, hv, rfl⟩, hS.F ht, by rw [ht]; exact hH⟩) hS.2.2 hd hlk
    | some (.long z), hi =>
      obtain ⟨rfl, hret⟩ := hi
      exact W.lret hx hb (hr.trans hret) (fun t ht hW => ⟨⟨_, hv, rfl⟩, hS.F ht, by rw [ht]; exact hH⟩) hS.2.2 hd hlk
    | some (.float z), hi =>
      obtain ⟨rfl, hret⟩ := hi
      exact W.fret hx hb (hr.trans hret) (fun t ht hW => ⟨⟨_, hv, rfl⟩, hS.F ht, by rw [ht]; exact hH⟩) hS.2.2 hd hlk
    | some (.double z), hi =>
      obtain ⟨rfl, hret⟩ := hi
      exact W.dret hx hb (hr.trans hret) (fun t ht hW => ⟨⟨_, hv, rfl⟩, hS.F ht, by rw [ht]; exact hH⟩) hS.2.2 hd hlk
    | some (.ref z), hi =>
      obtain ⟨rfl, rt, hret, hrt⟩ := hi
      exact W.aret hx hb (hr.trans hret) hrt (Or.inr ⟨_, rfl⟩) (fun t ht hW => ⟨⟨_, hv, rfl⟩, hS.F ht, by rw [ht]; exact hH⟩) hS.2.2 hd hlk
  · have h7 := q_exc7 _ ho _ (q_lk_mem hq)
    rw [h7] at hq hown
    have hw := q_at0 _ (q_lk_mem hq)
    obtain ⟨d3, d4, d7⟩ := q_thr_at hth
    have hZ : ∀ {C n d}, vx_Zq C n d (q_A s0) s0 s0.heap → vx_Zq C n d (q_A s0) s s.heap := fun z => (z.moved hY.1.alike).kept (fun q k1 _ => hY.2.2 q k1)
    have hcar : ∀ w ∈ (Cond.classLink RX7 ix x :: Cond.initialized x :: vx_at0 RX7 ic x q_rte), w.before args s = true := fun w h => q_carry hG hY hts (hw w h).1 (hw w h).2.1
    have h8 : (st1.map fun v => v.category).sum ≤ 8 := hcat
    rw [hnil] at htab
    refine vx_throw0 (A := q_A s0) hx hb hlt hown (q_at1 _ (q_lk_mem hq)).1 (q_at1 _ (q_lk_mem hq)).2 (hcar _ List.mem_cons_self) (hcar _ (List.mem_cons_of_mem _ List.mem_cons_self)) (fun w h => hcar w (List.mem_cons_of_mem _ (List.mem_cons_of_mem _ h))) (fun w h => (hw w h).2.2) (hZ hG.2.2.2.1.1) (hZ hG.2.2.2.1.2) hS hsz hd d3 d4 d7
      (fun z hz => by rw [htab] at hz; cases hz) (by show 2 + 3 < _; omega) (by show _ + (13 * (2 + 1) + 42) ≤ _; omega) (by have := hRc; rw [he] at this; dsimp only at this; omega) (by have := hRs; rw [he] at this; dsimp only at this; omega) hlk
      (fun t hA hz ho2 => ⟨hxr, ⟨Nat.le_trans hS.1 (by omega), fun q k1 k2 => by rw [ho2 q (Nat.lt_of_lt_of_le k1 hS.1)]; exact hS.2.1 q k1 k2⟩, by rw [he]; exact q_hp_keep hH hz ho2⟩) hS.2.2 (by rw [he]; dsimp only; omega) (by rw [he]; dsimp only; omega)
  · rw [hnil] at htab
    exact vx_out (fun z hz => by rw [htab] at hz; cases hz) hlk hce hcv hcl (fun t ht hA => ⟨hxr, hS.F ht, by rw [ht]; exact hH⟩) hS.2.2 (Nat.le_refl _) (Nat.le_refl _)
end QV
