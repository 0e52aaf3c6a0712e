/-! what the law's start gives, and the law out of a run -/
theorem q_lwown (s : State) (q : Nat) (hq : q < s.heap.size) : ¬ q_A s q := Nat.not_le.mpr hq
def q_mkE (a0 a1 a2 a3 b L : Nat) (adK adV : Nat → Nat) (v5 : Value) (xs : Nat → Int32) : q_E :=
  (fun j => match j with
    | 0 => some (.ref a0)
    | 1 => some (.ref a1)
    | 2 => some (.ref a2)
    | 3 => some (.ref a3)
    | 4 => some (.int 1)
    | 5 => some v5
    | j => if j < 22 then some (.ref (if j % 2 = 0 then adK ((j - 6) / 2) else adV ((j - 7) / 2))) else none,
   fun x => match (List.range 8).find? (fun i => decide (adV i = x)) with
    | some i => some (.byte, (q_stb i).length, q_vf (q_stb i))
    | none => if x = a0 then some (.int, 3, q_vf [5, 2, 30]) else if x = a1 then some (.int, 3, q_vf [1, 1, 1]) else if x = a2 then some (.int, 3, q_vf [20, 3, 30]) else if x = a3 then some (.char, 4, q_vf [46, 35, 43, 64]) else if x = b then some (.int, L, fun j => .int (xs j)) else none)
theorem q_mk_k {a0 a1 a2 a3 b L : Nat} {adK adV : Nat → Nat} {v5 : Value} {xs : Nat → Int32} : ∀ i, i < 8 → (q_mkE a0 a1 a2 a3 b L adK adV v5 xs).1 (6 + 2 * i) = some (.ref (adK i)) ∧ (q_mkE a0 a1 a2 a3 b L adK adV v5 xs).1 (7 + 2 * i) = some (.ref (adV i))
  | 0, _ => ⟨rfl, rfl⟩
  | 1, _ => ⟨rfl, rfl⟩
  | 2, _ => ⟨rfl, rfl⟩
  | 3, _ => ⟨rfl, rfl⟩
  | 4, _ => ⟨rfl, rfl⟩
  | 5, _ => ⟨rfl, rfl⟩
  | 6, _ => ⟨rfl, rfl⟩
  | 7, _ => ⟨rfl, rfl⟩
  | i + 8, h => absurd h (by omega)
theorem q_fd {P : Nat → Prop} {d : ∀ i, Decidable (P i)} {i : Nat} (hi : i < 8) (hp : P i) (hu : ∀ j, j < 8 → P j → j = i) : (List.range 8).find? (fun i => @decide (P i) (d i)) = some i := by
  cases e : (List.range 8).find? (fun i => @decide (P i) (d i)) with
  | none =>
    have := List.find?_eq_none.mp e i (List.mem_range.mpr hi)
    exact absurd (decide_eq_true hp) this
  | some j =>
    have h1 := List.find?_some e
    have h2 := List.mem_range.mp (List.mem_of_find?_eq_some e)
    rw [hu j h2 (of_decide_eq_true h1)]
theorem q_fd0 {P : Nat → Prop} {d : ∀ i, Decidable (P i)} (hu : ∀ j, j < 8 → ¬ P j) : (List.range 8).find? (fun i => @decide (P i) (d i)) = none :=
  List.find?_eq_none.mpr fun j hj h => hu j (List.mem_range.mp hj) (of_decide_eq_true h)
set_option maxRecDepth 20000 in
theorem q_setup {s : State} {b L : Nat} {xs : Nat → Int32} (hg : (Jvm.Cond.and given_1 narrow_1).before #[Value.ref b] s = true) (hts : ∀ w ∈ lw_tbl, w.before #[Value.ref b] s = true) (hX : va_X b L xs s s.heap) (hbl : b < s.heap.size) (hL : L ≤ 260) :
    ∃ (E : q_E) (D : va_G) (cid : Nat → ClassId) (L' : Nat) (ys : Nat → Int32), q_G E D cid s ∧ q_EN E s.heap.size ∧ E.2 b = some (.int, L', fun j => .int (ys j)) ∧ L' ≤ 260 := by
  have hf := flat_of_before _ hg
  have hA : ∀ a : Nat, a < s.heap.size → ¬ q_A s a := fun a ha => Nat.not_le.mpr ha
  obtain ⟨m1, m2, m3, m4, m5, m6, m7, m8, m9, m10, m11, m12, m14, m15, m16, m17⟩ := q_lays
  obtain ⟨g1, g2, g3, g4⟩ := q_flat_a
  obtain ⟨f1, f2, f3, f4, f5, f6, f7, f8, f9, f10, f11, f12, f18, f19⟩ := q_flat_b
  obtain ⟨a0, z0, t0⟩ := q_static (l := [5, 2, 30]) hg hts f1 f5 g1 (by decide) m1 m5
  obtain ⟨a1, z1, t1⟩ := q_static (l := [1, 1, 1]) hg hts f2 f6 g2 (by decide) m2 m5
  obtain ⟨a2, z2, t2⟩ := q_static (l := [20, 3, 30]) hg hts f3 f7 g3 (by decide) m3 m5
  obtain ⟨a3, z3, t3⟩ := q_static (l := [46, 35, 43, 64]) hg hts f4 f8 g4 (by decide) m4 m5
  have z4 := va_Zof (A := q_A s) (hts _ m6) (hts _ m7) (va_eqi (hf _ f12)) hA
  have z5 : ∃ v5 : Value, v5.category = 1 ∧ va_Z "jdk/internal/util/Preconditions" "SIOOBE_FORMATTER" "Ljava/util/function/BiFunction;" v5 (q_A s) s s.heap := by
    rcases va_Zqof (A := q_A s) (hts _ m8) (hts _ m9) (hf _ f11) hA with z | ⟨t, z⟩
    · exact ⟨_, rfl, z⟩
    · exact ⟨_, rfl, z⟩
  obtain ⟨v5, c5, z5⟩ := z5
  have hel : ∀ i : Nat, i < 8 → ∀ j : Nat, j < q_sle.getD i 0 → (Cond.eq (.elem (.field (.string "RobotAislesLaw" (q_six i)) "java/lang/String" "value" "[B") (.int (Int32.ofNat j))) (.int ((q_sby.getD i []).getD j 0))).before #[Value.ref b] s = true := fun i hi j hj =>
    hf _ (q_flat_d ⟨i, hi⟩ ⟨j, by have : q_sle.getD i 0 < 8 := (q_by_vf ⟨i, hi⟩).2.1; omega⟩ hj)
  obtain ⟨adK, adV, hvS, hKe⟩ := vk_Sof (A := q_A s) (args := #[Value.ref b]) (s := s) (N := 8) (tm := fun i => .string "RobotAislesLaw" (q_six i)) (len := q_sle) (byt := q_sby)
    (fun i hi => by have : q_sle.getD i 0 < 8 := (q_by_vf ⟨i, hi⟩).2.1; omega) (fun i hi => hf _ (q_flat_c ⟨i, hi⟩).1) (fun i hi => hf _ (q_flat_c ⟨i, hi⟩).2.1) (fun i hi => hf _ (q_flat_c ⟨i, hi⟩).2.2.1) (fun i hi => hf _ (q_flat_c ⟨i, hi⟩).2.2.2)
    hel (fun i j hi hj h => by
      rcases Nat.lt_or_gt_of_ne h with q | q
      · exact Or.inl (hf _ (q_flat_e ⟨i, hi⟩ ⟨j, hj⟩ q))
      · exact Or.inr (hf _ (q_flat_e ⟨j, hj⟩ ⟨i, hi⟩ q))) hA
  have tb : ∀ i, i < 8 → va_T .byte (adV i) (q_stb i).length (q_vf (q_stb i)) (q_A s) s s.heap := fun i hi => by
    obtain ⟨cell, h1, h2, h3, h4, h5, h6, h7⟩ := (hvS.1 i hi).2.2.2
    have e := q_by_vf ⟨i, hi⟩
    have e1 : (q_stb i).length = q_sle.getD i 0 := e.1
    rw [e1]
    refine ⟨cell, h1, h2, h3, h4, h5, fun j hj => ?_, h7⟩
    rw [h6 j hj]
    show some (Value.int ((q_sby.getD i []).getD j 0)) = _
    have e2 : (q_sby.getD i []).getD j 0 = zi ((q_stb i).getD j 0) := e.2.2 ⟨j, by have : q_sle.getD i 0 < 8 := e.2.1; omega⟩ hj
    rw [e2]
    rfl
  have nbb : ∀ i j, i < 8 → j < 8 → adV i = adV j → i = j := fun i j hi hj e => Classical.byContradiction fun n => by
    refine q_T_n2 (hvS.1 i hi).2.2.2 (hvS.1 j hj).2.2.2 ?_ e
    rcases q_by_ne ⟨i, hi⟩ ⟨j, hj⟩ (fun z => n (congrArg Fin.val z)) with q | ⟨k, k1, k2, k3⟩
    · exact Or.inl q
    · exact Or.inr ⟨k.val, k1, k2, fun z => k3 (by injection z)⟩
  have tx : va_T .int b L (fun j => .int (xs j)) (q_A s) s s.heap := by
    obtain ⟨scr, h1, h2, h3, h4, h5⟩ := hX
    exact ⟨scr, h1, h2, h3, Nat.le_of_eq h4.symm, by rw [h4] <;> rfl, h5, hA b hbl⟩
  have n10 : a1 ≠ a0 := q_T_ne t1 t0 (Or.inr ⟨0, by decide, by decide, by decide⟩)
  have n20 : a2 ≠ a0 := q_T_ne t2 t0 (Or.inr ⟨0, by decide, by decide, by decide⟩)
  have n21 : a2 ≠ a1 := q_T_ne t2 t1 (Or.inr ⟨0, by decide, by decide, by decide⟩)
  have n30 : a3 ≠ a0 := q_T_ne t3 t0 (Or.inl (by decide))
  have n31 : a3 ≠ a1 := q_T_ne t3 t1 (Or.inl (by decide))
  have n32 : a3 ≠ a2 := q_T_ne t3 t2 (Or.inl (by decide))
  have nb0 : ∀ i, i < 8 → adV i ≠ a0 := fun i hi => q_T_ne (tb i hi) t0 (Or.inl (by decide))
  have nb1 : ∀ i, i < 8 → adV i ≠ a1 := fun i hi => q_T_ne (tb i hi) t1 (Or.inl (by decide))
  have nb2 : ∀ i, i < 8 → adV i ≠ a2 := fun i hi => q_T_ne (tb i hi) t2 (Or.inl (by decide))
  have nb3 : ∀ i, i < 8 → adV i ≠ a3 := fun i hi => q_T_ne (tb i hi) t3 (Or.inl (by decide))
  have nx3 : b ≠ a3 := q_T_ne tx t3 (Or.inl (by decide))
  have nxb : ∀ i, i < 8 → adV i ≠ b := fun i hi => q_T_ne (tb i hi) tx (Or.inl (by decide))
  -- the classes
  have kn : ∀ c, ∃ cC iS, c < 10 → u_Kn s (q_cnm c) (q_T c) (q_N c) cC iS := fun c => by
    by_cases hc : c < 10
    · obtain ⟨cC, iS, h⟩ := u_known (C := q_cnm c) (T := q_T c) (N := q_N c) (n := q_N c) hts (q_ws_ok c hc) (hts _ (q_inst c hc))
      exact ⟨cC, iS, fun _ => h⟩
    · exact ⟨0, fun _ => 0, fun h => absurd h hc⟩
  -- the arrays
  have ar : ∀ t, ∃ k : ClassId, t < 9 → ArrOfT s k (q_at t) ∧ va_RA s k (q_at t) := fun t => by
    by_cases ht : t < 9
    · by_cases h5 : t < 5
      · obtain ⟨k, kA, comp, e1, e2, e3⟩ := Cond.arrayClass_spec (hts _ (q_ac t h5))
        refine ⟨k, fun _ => ⟨fun N z => ⟨(fun q hq => by cases hq), kA, e2, comp, e3⟩, ?_⟩⟩
        match t, h5, e1 with
        | 0, _, e1 => exact e1
        | 1, _, e1 => exact e1
        | 2, _, e1 => exact e1
        | 3, _, e1 => exact e1
        | 4, _, e1 => exact e1
      · match t, ht, h5 with
        | 5, _, _ =>
          obtain ⟨comp, k, kA, e1, e2, e3, e4, e5⟩ := Cond.arrayOver_spec (hts _ m14)
          exact ⟨k, fun _ => ⟨fun N z => ⟨(fun q hq => by cases hq), kA, e3, comp, e4⟩, kA, comp, e3, e4, e1, e5⟩⟩
        | 6, _, _ =>
          obtain ⟨comp, k, kA, e1, e2, e3, e4, e5⟩ := Cond.arrayOver_spec (hts _ m15)
          exact ⟨k, fun _ => ⟨fun N z => ⟨(fun q hq => by cases hq), kA, e3, comp, e4⟩, kA, comp, e3, e4, e1, e5⟩⟩
        | 7, _, _ =>
          obtain ⟨comp, k, kA, e1, e2, e3, e4, e5⟩ := Cond.arrayOver_spec (hts _ m16)
          exact ⟨k, fun _ => ⟨fun N z => ⟨(fun q hq => by cases hq), kA, e3, comp, e4⟩, kA, comp, e3, e4, e1, e5⟩⟩
        | 8, _, _ =>
          obtain ⟨comp, k, kA, e1, e2, e3, e4, e5⟩ := arrayOverA_spec (hts _ m17)
          exact ⟨k, fun _ => ⟨fun N z => ⟨(fun q hq => by cases hq), kA, e3, comp, e4⟩, e5⟩⟩
        | t + 9, h9, _ => exact absurd h9 (by omega)
    · exact ⟨0, fun h => absurd h ht⟩
  refine ⟨q_mkE a0 a1 a2 a3 b L adK adV v5 xs, (fun c => Classical.choose (kn c), fun c => Classical.choose (Classical.choose_spec (kn c))), fun t => Classical.choose (ar t), ?_⟩
  have e2 : ∀ x ty n f, (q_mkE a0 a1 a2 a3 b L adK adV v5 xs).2 x = some (ty, n, f) → va_T ty x n f (q_A s) s s.heap := fun x ty n f h => by
    unfold q_mkE at h
    dsimp only at h
    cases hfd : (List.range 8).find? (fun i => decide (adV i = x)) with
    | some i =>
      rw [hfd] at h
      have hi := List.mem_range.mp (List.mem_of_find?_eq_some hfd)
      have hx0 := List.find?_some (p := fun i => decide (adV i = x)) hfd
      have hx : adV i = x := of_decide_eq_true hx0
      cases h
      rw [← hx]
      exact tb i hi
    | none =>
    rw [hfd] at h
    dsimp only at h
    by_cases e0 : x = a0
    · rw [if_pos e0] at h; cases h; rw [e0]; exact t0
    rw [if_neg e0] at h
    by_cases e1 : x = a1
    · rw [if_pos e1] at h; cases h; rw [e1]; exact t1
    rw [if_neg e1] at h
    by_cases e2 : x = a2
    · rw [if_pos e2] at h; cases h; rw [e2]; exact t2
    rw [if_neg e2] at h
    by_cases e3 : x = a3
    · rw [if_pos e3] at h; cases h; rw [e3]; exact t3
    rw [if_neg e3] at h
    by_cases e5 : x = b
    · rw [if_pos e5] at h; cases h; rw [e5]; exact tx
    rw [if_neg e5] at h
    cases h
  have eb : ∃ (L' : Nat) (ys : Nat → Int32), (q_mkE a0 a1 a2 a3 b L adK adV v5 xs).2 b = some (.int, L', fun j => .int (ys j)) ∧ L' ≤ 260 := by
    unfold q_mkE
    dsimp only
    rw [q_fd0 (P := fun i => adV i = b) fun i hi => nxb i hi]
    dsimp only
    by_cases e0 : b = a0
    · exact ⟨3, _, by rw [if_pos e0]; rfl, by decide⟩
    by_cases e1 : b = a1
    · exact ⟨3, _, by rw [if_neg e0, if_pos e1]; rfl, by decide⟩
    by_cases e2 : b = a2
    · exact ⟨3, _, by rw [if_neg e0, if_neg e1, if_pos e2]; rfl, by decide⟩
    exact ⟨L, xs, by rw [if_neg e0, if_neg e1, if_neg e2, if_neg nx3, if_pos rfl], hL⟩
  obtain ⟨L', ys, eb1, eb2⟩ := eb
  refine ⟨L', ys, ⟨⟨fun c q hq => ?_, fun k q hk => ?_⟩, fun j v hv hj => ?_, e2, ⟨vx_Zqof (hts _ m10) (hts _ m12) (hf _ f9) hA, vx_Zqof (hts _ m11) (hts _ m12) (hf _ f10) hA⟩, fun w hw ho => va_any ho (hts w hw), fun t h1 h2 => ?_, (hts _ m17), fun x nm hn => ?_, ⟨adK, adV, fun i hi => ⟨(q_mk_k i hi).1, (q_mk_k i hi).2, vk_R.of (hts _ (q_strs ⟨i, hi⟩)) (hKe i hi)⟩, hvS⟩⟩, ⟨⟨a0, T_lt t0, rfl, ?_⟩, ⟨a1, T_lt t1, rfl, ?_⟩, ⟨a2, T_lt t2, rfl, ?_⟩, ⟨a3, T_lt t3, rfl, ?_⟩, rfl, ⟨v5, rfl, c5⟩, fun i hi => ?_⟩, eb1, eb2⟩
  · have hc : c < 10 := by
      have := (List.getElem?_eq_some_iff.mp hq).1
      exact this
    rw [q_cls_ok c hc] at hq
    cases hq
    exact Classical.choose_spec (Classical.choose_spec (kn c)) hc
  · have hk9 : k < 9 := by
      have := (List.getElem?_eq_some_iff.mp hk).1
      exact this
    rw [q_tys_at _ k hk9] at hk
    cases hk
    exact Classical.choose_spec (ar k) hk9
  · match j, hj, hv with
    | 0, _, hv => cases hv; exact z0
    | 1, _, hv => cases hv; exact z1
    | 2, _, hv => cases hv; exact z2
    | 3, _, hv => cases hv; exact z3
    | 4, _, hv => cases hv; exact z4
    | 5, _, hv => cases hv; exact z5
  · match t, h1, h2 with
    | 5, _, _ => exact va_AO.of (C := RX5) (hts _ m14)
    | 6, _, _ => exact va_AO.of (C := RX3) (hts _ m15)
    | 7, _, _ => exact va_AO.of (C := RX6) (hts _ m16)
  · unfold q_ncb at hn
    rcases Bool.or_eq_true_iff.mp hn with h | h
    · obtain ⟨h1, h2⟩ := Bool.and_eq_true_iff.mp h
      rw [eq_of_beq h1, eq_of_beq h2]
      exact va_Nc.of (hf _ f18)
    · obtain ⟨h1, h2⟩ := Bool.and_eq_true_iff.mp h
      rw [eq_of_beq h1, eq_of_beq h2]
      exact va_Nc.of (hf _ f19)
  · show (match (List.range 8).find? (fun i => decide (adV i = a0)) with
      | some i => some (FieldType.byte, (q_stb i).length, q_vf (q_stb i))
      | none => if a0 = a0 then _ else _) = _
    rw [q_fd0 (P := fun i => adV i = a0) fun i hi => nb0 i hi]
    exact if_pos rfl
  · show (match (List.range 8).find? (fun i => decide (adV i = a1)) with
      | some i => some (FieldType.byte, (q_stb i).length, q_vf (q_stb i))
      | none => if a1 = a0 then _ else if a1 = a1 then _ else _) = _
    rw [q_fd0 (P := fun i => adV i = a1) fun i hi => nb1 i hi]
    exact (if_neg n10).trans (if_pos rfl)
  · show (match (List.range 8).find? (fun i => decide (adV i = a2)) with
      | some i => some (FieldType.byte, (q_stb i).length, q_vf (q_stb i))
      | none => if a2 = a0 then _ else if a2 = a1 then _ else if a2 = a2 then _ else _) = _
    rw [q_fd0 (P := fun i => adV i = a2) fun i hi => nb2 i hi]
    exact (if_neg n20).trans ((if_neg n21).trans (if_pos rfl))
  · show (match (List.range 8).find? (fun i => decide (adV i = a3)) with
      | some i => some (FieldType.byte, (q_stb i).length, q_vf (q_stb i))
      | none => if a3 = a0 then _ else if a3 = a1 then _ else if a3 = a2 then _ else if a3 = a3 then _ else _) = _
    rw [q_fd0 (P := fun i => adV i = a3) fun i hi => nb3 i hi]
    exact (if_neg n30).trans ((if_neg n31).trans ((if_neg n32).trans (if_pos rfl)))
  · refine ⟨adK i, adV i, i, ⟨O_lt (hvS.1 i hi).1, T_lt (tb i hi)⟩, (q_mk_k i hi).1, ?_, (q_mk_k i hi).2, ?_⟩
    · unfold q_sx
      refine q_fd (P := fun j => (q_mkE a0 a1 a2 a3 b L adK adV v5 xs).1 (6 + 2 * j) = some (.ref (adK i))) hi (q_mk_k i hi).1 fun j hj e => ?_
      have e2 := (q_mk_k (a0 := a0) (a1 := a1) (a2 := a2) (a3 := a3) (b := b) (L := L) (adK := adK) (adV := adV) (v5 := v5) (xs := xs) j hj).1.symm.trans e
      injection e2 with e3
      injection e3 with e4
      exact hvS.2 j i hj hi e4
    · show (match (List.range 8).find? (fun j => decide (adV j = adV i)) with
        | some i => some (FieldType.byte, (q_stb i).length, q_vf (q_stb i))
        | none => _) = _
      rw [q_fd (P := fun j => adV j = adV i) hi rfl fun j hj e => nbb j i hj hi e]
