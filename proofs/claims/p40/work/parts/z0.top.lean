/-! the law's walk out of a run of the abstract machine -/
theorem T_lt {ty : FieldType} {t N : Nat} {f : Nat → Value} {A : Nat → Prop} {s : State} {H : Heap} (h : va_T ty t N f A s H) : t < H.size := by
  obtain ⟨c, h1, _⟩ := h
  exact (Array.getElem?_eq_some_iff.mp h1).1
theorem O_lt {C : String} {t : Nat} {A : Nat → Prop} {s : State} {H : Heap} (h : va_O C t A s H) : t < H.size := by
  obtain ⟨c, h1, _⟩ := h
  exact (Array.getElem?_eq_some_iff.mp h1).1
theorem q_T_ne {ty ty' : FieldType} {t t' N N' : Nat} {f f' : Nat → Value} {A : Nat → Prop} {s : State} {H : Heap} (h1 : va_T ty t N f A s H) (h2 : va_T ty' t' N' f' A s H) (hne : ty ≠ ty' ∨ ∃ j, j < N ∧ j < N' ∧ f j ≠ f' j) : t ≠ t' := by
  intro e
  subst e
  obtain ⟨c1, a1, a2, a3, a4, a5, a6, a7⟩ := h1
  obtain ⟨c2, b1, b2, b3, b4, b5, b6, b7⟩ := h2
  cases Option.some.inj (a1.symm.trans b1)
  rcases hne with hne | ⟨j, hj1, hj2, hne⟩
  · obtain ⟨-, k, hk, cm, hkk⟩ := a2
    obtain ⟨-, k', hk', cm', hkk'⟩ := b2
    cases Option.some.inj (hk.symm.trans hk')
    have := hkk.symm.trans hkk'
    injection this with _ e2
    exact hne e2
  · exact hne (Option.some.inj ((a6 j hj1).symm.trans (b6 j hj2)))
theorem q_static {s : State} {b : Nat} (hg : (Jvm.Cond.and given_1 narrow_1).before #[Value.ref b] s = true) (hts : ∀ w ∈ lw_tbl, w.before #[Value.ref b] s = true) {n d : String} {ty : FieldType} {l : List Int}
    (h1 : Cond.arrayOf (.static "RobotAisles" n d) ty ∈ flatC (Jvm.Cond.and given_1 narrow_1)) (h2 : Cond.eq (.length (.static "RobotAisles" n d)) (.int (Int32.ofNat l.length)) ∈ flatC (Jvm.Cond.and given_1 narrow_1)) (h3 : ∀ j, j < l.length → Cond.eq (.elem (.static "RobotAisles" n d) (.int (Int32.ofNat j))) (.int (zi (l.getD j 0))) ∈ flatC (Jvm.Cond.and given_1 narrow_1))
    (hl : l.length < 2 ^ 31) (h4 : Cond.laysStatic "RobotAisles" n d ∈ lw_tbl) (h5 : Cond.initialized "RobotAisles" ∈ lw_tbl) : ∃ t, va_Z "RobotAisles" n d (.ref t) (q_A s) s s.heap ∧ va_T ty t l.length (q_vf l) (q_A s) s s.heap := by
  have hf := flat_of_before _ hg
  obtain ⟨t, ht, hT⟩ := va_Tof (A := q_A s) (f := q_vf l) hl (hf _ h1) (va_eqt (hf _ h2)) (fun j hj => va_eqt (hf _ (h3 j hj))) (fun a ha h => Nat.not_le.mpr ha h)
  exact ⟨t, va_Zof (hts _ h4) (hts _ h5) ht (fun a ha h => Nat.not_le.mpr ha h), hT⟩
set_option maxRecDepth 100000 in
theorem q_lays : Cond.laysStatic "RobotAisles" "SETTING_FIRST" "[I" ∈ lw_tbl ∧ Cond.laysStatic "RobotAisles" "SETTING_LEAST" "[I" ∈ lw_tbl ∧ Cond.laysStatic "RobotAisles" "SETTING_MOST" "[I" ∈ lw_tbl ∧ Cond.laysStatic "RobotAisles" "SIGNS" "[C" ∈ lw_tbl ∧ Cond.initialized "RobotAisles" ∈ lw_tbl ∧ Cond.laysStatic "java/lang/String" "COMPACT_STRINGS" "Z" ∈ lw_tbl ∧ Cond.initialized "java/lang/String" ∈ lw_tbl ∧
    Cond.laysStatic "jdk/internal/util/Preconditions" "SIOOBE_FORMATTER" "Ljava/util/function/BiFunction;" ∈ lw_tbl ∧ Cond.initialized "jdk/internal/util/Preconditions" ∈ lw_tbl ∧ Cond.laysStatic Bundle.tN "UNASSIGNED_STACK" Bundle.steD ∈ lw_tbl ∧ Cond.laysStatic Bundle.tN "SUPPRESSED_SENTINEL" Bundle.listD ∈ lw_tbl ∧ Cond.initialized Bundle.tN ∈ lw_tbl ∧
    Cond.arrayOver (.object RX5) ∈ lw_tbl ∧ Cond.arrayOver (.object RX3) ∈ lw_tbl ∧ Cond.arrayOver (.object RX6) ∈ lw_tbl ∧ Cond.arrayOver (.array .int) ∈ lw_tbl := by decide +kernel
set_option maxRecDepth 100000 in
theorem q_flat_a : (∀ j, j < 3 → Cond.eq (.elem (.static "RobotAisles" "SETTING_FIRST" "[I") (.int (Int32.ofNat j))) (.int (zi ([5, 2, 30].getD j 0))) ∈ flatC (Jvm.Cond.and given_1 narrow_1)) ∧ (∀ j, j < 3 → Cond.eq (.elem (.static "RobotAisles" "SETTING_LEAST" "[I") (.int (Int32.ofNat j))) (.int (zi ([1, 1, 1].getD j 0))) ∈ flatC (Jvm.Cond.and given_1 narrow_1)) ∧
    (∀ j, j < 3 → Cond.eq (.elem (.static "RobotAisles" "SETTING_MOST" "[I") (.int (Int32.ofNat j))) (.int (zi ([20, 3, 30].getD j 0))) ∈ flatC (Jvm.Cond.and given_1 narrow_1)) ∧ (∀ j, j < 4 → Cond.eq (.elem (.static "RobotAisles" "SIGNS" "[C") (.int (Int32.ofNat j))) (.int (zi ([46, 35, 43, 64].getD j 0))) ∈ flatC (Jvm.Cond.and given_1 narrow_1)) := by decide +kernel
set_option maxRecDepth 100000 in
theorem q_flat_b : Cond.arrayOf (.static "RobotAisles" "SETTING_FIRST" "[I") .int ∈ flatC (Jvm.Cond.and given_1 narrow_1) ∧ Cond.arrayOf (.static "RobotAisles" "SETTING_LEAST" "[I") .int ∈ flatC (Jvm.Cond.and given_1 narrow_1) ∧ Cond.arrayOf (.static "RobotAisles" "SETTING_MOST" "[I") .int ∈ flatC (Jvm.Cond.and given_1 narrow_1) ∧ Cond.arrayOf (.static "RobotAisles" "SIGNS" "[C") .char ∈ flatC (Jvm.Cond.and given_1 narrow_1) ∧
    Cond.eq (.length (.static "RobotAisles" "SETTING_FIRST" "[I")) (.int 3) ∈ flatC (Jvm.Cond.and given_1 narrow_1) ∧ Cond.eq (.length (.static "RobotAisles" "SETTING_LEAST" "[I")) (.int 3) ∈ flatC (Jvm.Cond.and given_1 narrow_1) ∧ Cond.eq (.length (.static "RobotAisles" "SETTING_MOST" "[I")) (.int 3) ∈ flatC (Jvm.Cond.and given_1 narrow_1) ∧ Cond.eq (.length (.static "RobotAisles" "SIGNS" "[C")) (.int 4) ∈ flatC (Jvm.Cond.and given_1 narrow_1) ∧
    Cond.isRef (.static Bundle.tN "UNASSIGNED_STACK" Bundle.steD) ∈ flatC (Jvm.Cond.and given_1 narrow_1) ∧ Cond.isRef (.static Bundle.tN "SUPPRESSED_SENTINEL" Bundle.listD) ∈ flatC (Jvm.Cond.and given_1 narrow_1) ∧ Cond.isRef (.static "jdk/internal/util/Preconditions" "SIOOBE_FORMATTER" "Ljava/util/function/BiFunction;") ∈ flatC (Jvm.Cond.and given_1 narrow_1) ∧
    Cond.eq (.static "java/lang/String" "COMPACT_STRINGS" "Z") (.int 1) ∈ flatC (Jvm.Cond.and given_1 narrow_1) ∧
    Cond.not (.castable "java/lang/IllegalArgumentException" "java/lang/IndexOutOfBoundsException") ∈ flatC (Jvm.Cond.and given_1 narrow_1) ∧ Cond.not (.castable "java/util/NoSuchElementException" "java/lang/IndexOutOfBoundsException") ∈ flatC (Jvm.Cond.and given_1 narrow_1) := by decide +kernel
set_option maxRecDepth 100000 in
theorem q_strs : ∀ i : Fin 8, Cond.stringRef "RobotAislesLaw" (q_six i.val) (q_stx i.val) ∈ lw_tbl := by decide +kernel
set_option maxRecDepth 100000 in
theorem q_flat_c : ∀ i : Fin 8, Cond.exactly (.string "RobotAislesLaw" (q_six i.val)) "java/lang/String" ∈ flatC (Jvm.Cond.and given_1 narrow_1) ∧ Cond.eq (.field (.string "RobotAislesLaw" (q_six i.val)) "java/lang/String" "coder" "B") (.int 0) ∈ flatC (Jvm.Cond.and given_1 narrow_1) ∧ Cond.arrayOf (.field (.string "RobotAislesLaw" (q_six i.val)) "java/lang/String" "value" "[B") .byte ∈ flatC (Jvm.Cond.and given_1 narrow_1) ∧
    Cond.eq (.length (.field (.string "RobotAislesLaw" (q_six i.val)) "java/lang/String" "value" "[B")) (.int (Int32.ofNat (q_sle.getD i.val 0))) ∈ flatC (Jvm.Cond.and given_1 narrow_1) := by decide +kernel
set_option maxRecDepth 100000 in
theorem q_flat_d : ∀ i : Fin 8, ∀ j : Fin 7, j.val < q_sle.getD i.val 0 → Cond.eq (.elem (.field (.string "RobotAislesLaw" (q_six i.val)) "java/lang/String" "value" "[B") (.int (Int32.ofNat j.val))) (.int ((q_sby.getD i.val []).getD j.val 0)) ∈ flatC (Jvm.Cond.and given_1 narrow_1) := by decide +kernel
set_option maxRecDepth 100000 in
theorem q_flat_e : ∀ i j : Fin 8, i.val < j.val → Cond.not (Cond.eq (.string "RobotAislesLaw" (q_six i.val)) (.string "RobotAislesLaw" (q_six j.val))) ∈ flatC (Jvm.Cond.and given_1 narrow_1) := by decide +kernel
theorem q_T_n2 {ty ty' : FieldType} {t t' N N' : Nat} {f f' : Nat → Value} {A : Nat → Prop} {s : State} {H : Heap} (h1 : va_T ty t N f A s H) (h2 : va_T ty' t' N' f' A s H) (hne : Int32.ofNat N ≠ Int32.ofNat N' ∨ ∃ j, j < N ∧ j < N' ∧ f j ≠ f' j) : t ≠ t' := by
  intro e
  subst e
  obtain ⟨c1, a1, a2, a3, a4, a5, a6, a7⟩ := h1
  obtain ⟨c2, b1, b2, b3, b4, b5, b6, b7⟩ := h2
  cases Option.some.inj (a1.symm.trans b1)
  rcases hne with hne | ⟨j, hj1, hj2, hne⟩
  · exact hne (a5.symm.trans b5)
  · exact hne (Option.some.inj ((a6 j hj1).symm.trans (b6 j hj2)))
theorem q_by_ne : ∀ i j : Fin 8, i ≠ j → Int32.ofNat (q_sle.getD i.val 0) ≠ Int32.ofNat (q_sle.getD j.val 0) ∨ ∃ k : Fin 7, k.val < q_sle.getD i.val 0 ∧ k.val < q_sle.getD j.val 0 ∧ (q_sby.getD i.val []).getD k.val 0 ≠ (q_sby.getD j.val []).getD k.val 0 := by decide +kernel
theorem q_by_vf : ∀ i : Fin 8, (q_stb i.val).length = q_sle.getD i.val 0 ∧ q_sle.getD i.val 0 < 8 ∧ ∀ k : Fin 7, k.val < q_sle.getD i.val 0 → (q_sby.getD i.val []).getD k.val 0 = zi ((q_stb i.val).getD k.val 0) := by decide +kernel
