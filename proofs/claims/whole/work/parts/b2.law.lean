/-! a call of the law: the helper, the reference, what was thrown -/
def LI (T : Int) (x N c s : Nat) (h : q_H) : Prop := (∃ M, RM T x h M) ∧ (LAo h (x + 456) ∧ DAo h (x + 457)) ∧ Lo h N ∧ h.2.2.1 ≤ c ∧ h.2.2.2 ≤ s
section TWO
variable {E : q_E} {h h1 h' : q_H} {x N c s b L : Nat} {T T' i k : Int} {m7 m8 mL : q_M} {vs : List Value} {xs : List String} {ys : Nat → Int32} {M : q_Im}
theorem rm_o7 (H : RM T x h M) : ∃ fs, h.1 x = some (.inr (7, fs)) := by
  obtain ⟨_, l, ls, nx, ct, kl, n, c, hs, fa, kr, kd_, hC, _⟩ := H
  exact ⟨_, hC.1⟩
theorem rm_o8 (H : RM T x h M) : ∃ fs, h.1 (x + 444) = some (.inr (8, fs)) := ⟨_, (congrFun (congrArg Prod.fst H.1) _).trans m_o⟩
theorem la_fr {o : Nat} {bb n : Nat} (H : LAo h o) (F : Fr bb n h h') (k : o < bb ∨ bb + n ≤ o) : LAo h' o := by
  obtain ⟨f, e⟩ := H
  exact ⟨f, (F.2 _ k).trans e⟩
theorem da_fr {o : Nat} {bb n : Nat} (H : DAo h o) (F : Fr bb n h h') (k : o < bb ∨ bb + n ≤ o) : DAo h' o := by
  obtain ⟨f, e⟩ := H
  exact ⟨f, (F.2 _ k).trans e⟩
theorem la_fw {o : Nat} (H : LAo h o) (F : Fw x h h1) (k : x + 444 ≤ o) : LAo h1 o := by
  obtain ⟨f, e⟩ := H
  exact ⟨f, (F.1 _ (.inr k)).trans e⟩
theorem da_fw {o : Nat} (H : DAo h o) (F : Fw x h h1) (k : x + 444 ≤ o) : DAo h1 o := by
  obtain ⟨f, e⟩ := H
  exact ⟨f, (F.1 _ (.inr k)).trans e⟩
theorem gL_fr {o : Nat} {bb n : Nat} {q : Int32} (F : Fr bb n h h') (k : o < bb ∨ bb + n ≤ o) : q_gL h' o q = q_gL h o q := by
  unfold q_gL
  rw [F.2 _ k]
theorem gD_fr {o : Nat} {bb n : Nat} {q : Int32} (F : Fr bb n h h') (k : o < bb ∨ bb + n ≤ o) : q_gD h' o q = q_gD h o q := by
  unfold q_gD
  rw [F.2 _ k]
theorem li_mono {c' s' : Nat} (I : LI T x N c s h) (hT : T ≤ T') (h0 : 0 ≤ T) (hc : c ≤ c') (hs : s ≤ s') : LI T' x N c' s' h := by
  obtain ⟨⟨M, a⟩, b, d, e, f⟩ := I
  exact ⟨⟨M, rm_mono a hT h0⟩, b, d, by omega, by omega⟩
/-- the rest of a call, behind the helper -/
theorem li_2 {M2 : q_Im} (I : LI T x N c s h) (hN : N ≤ x) (f1 : Fw x h h1) (F : Fr (x + 456) 2 h1 h') (hl : LAo h' (x + 456)) (hd : DAo h' (x + 457)) (hR : RM T' x (q_mw h' (x + 444) M2) M2) : LI T' x N (c + 1) (s + 6) (q_mw h' (x + 444) M2) ∧ Lo h' N ∧ ∃ fs, h'.1 (x + 444) = some (.inr (8, fs)) := by
  obtain ⟨⟨M, a⟩, _, d, e, f⟩ := I
  have l2 := lo_2 d hN f1 F
  refine ⟨⟨⟨M2, hR⟩, ⟨la_fr hl mw_fr (by omega), da_fr hd mw_fr (by omega)⟩, lo_mw l2 (by omega), ?_, ?_⟩, l2, ?_⟩
  · show h'.2.2.1 ≤ c + 1
    rw [F.1]
    have := f1.2.1
    omega
  · show h'.2.2.2 ≤ s + 6
    rw [F.1]
    have := f1.2.2
    omega
  · obtain ⟨fs, q⟩ := rm_o8 a
    exact ⟨fs, ((F.2 _ (by omega)).trans (f1.1 _ (by omega))).trans q⟩
theorem two_i (B : Bo E T' x h m7 m8 vs xs isI) (I : LI T x N c s h) (hN : N ≤ x) (HH : ∀ r h1 t x0, q_cl E m7 (.ref x :: vs) h = some (r, h1) → Rs xs r t (.int x0) → LAo h1 (x + 456) → Hp E mL (.ref x :: (vs ++ [.ref (x + 456)])) h h1 (x + 456) t x0.toInt64) :
    ∃ t z h2 h3, q_cl E mL (.ref x :: (vs ++ [.ref (x + 456)])) h = some (.inl (some (.int (zi t))), h2) ∧ q_cl E m8 (.ref (x + 444) :: vs) h2 = some (.inl (some (.int (zi z))), h3) ∧ q_cl E q_m_X8_thrown [.ref (x + 444)] h3 = some (.inl (some (.int (zi t))), h3) ∧ (t = 0 → q_gL h3 (x + 456) (zi 0) = some (.long (zi z).toInt64)) ∧ (LI T' x N (c + 1) (s + 6) h3 ∧ Lo h2 N ∧ ∃ fs, h2.1 (x + 444) = some (.inr (8, fs))) ∧ (∃ fs, h3.1 (x + 444) = some (.inr (8, fs))) ∧ 0 ≤ t ∧ t ≤ 2 := by
  obtain ⟨r, h1, t, v, e1, f1, hr, ⟨z, rfl⟩, K⟩ := B
  obtain ⟨h2, e2, F2, g2, l2, t0, t1⟩ := HH r h1 t (zi z) e1 hr (la_fw I.2.1.1 f1 (by omega))
  have F : Fr (x + 456) 2 h1 h2 := fr_in F2 (by omega) (by omega)
  obtain ⟨M2, k1, k2, k3⟩ := K h2 F
  have d2 : DAo h2 (x + 457) := da_fr (da_fw I.2.1.2 f1 (by omega)) F2 (by omega)
  refine ⟨t, z, h2, _, e2, k1, ?_, fun q => ?_, li_2 I hN f1 F l2 d2 k3, rm_o8 k3, t0, t1⟩
  · have := S_X8_thrown (E := E) (h := h2) (am := x + 444) (M := M2)
    rw [k2] at this
    exact this
  · rw [gL_fr mw_fr (by omega)]
    exact g2 q
theorem two_f {sh : Value → Prop} {P_ : UInt32 → Prop} (B : Bo E T' x h m7 m8 vs xs sh) (hsh : ∀ v, sh v → ∃ p, v = .float p ∧ P_ p) (I : LI T x N c s h) (hN : N ≤ x) (HH : ∀ r h1 t x0, P_ x0 → q_cl E m7 (.ref x :: vs) h = some (r, h1) → Rs xs r t (.float x0) → DAo h1 (x + 457) → HpD E mL (.ref x :: (vs ++ [.ref (x + 457)])) h h1 (x + 457) t (FP.f2d x0)) :
    ∃ t z h2 h3, P_ z ∧ q_cl E mL (.ref x :: (vs ++ [.ref (x + 457)])) h = some (.inl (some (.int (zi t))), h2) ∧ q_cl E m8 (.ref (x + 444) :: vs) h2 = some (.inl (some (.float z)), h3) ∧ q_cl E q_m_X8_thrown [.ref (x + 444)] h3 = some (.inl (some (.int (zi t))), h3) ∧ (t = 0 → q_gD h3 (x + 457) (zi 0) = some (.double (FP.f2d z))) ∧ (LI T' x N (c + 1) (s + 6) h3 ∧ Lo h2 N ∧ ∃ fs, h2.1 (x + 444) = some (.inr (8, fs))) ∧ (∃ fs, h3.1 (x + 444) = some (.inr (8, fs))) ∧ 0 ≤ t ∧ t ≤ 2 := by
  obtain ⟨r, h1, t, v, e1, f1, hr, hv, K⟩ := B
  obtain ⟨z, rfl, hz⟩ := hsh v hv
  obtain ⟨h2, e2, F2, g2, l2, t0, t1⟩ := HH r h1 t z hz e1 hr (da_fw I.2.1.2 f1 (by omega))
  have F : Fr (x + 456) 2 h1 h2 := fr_in F2 (by omega) (by omega)
  obtain ⟨M2, k1, k2, k3⟩ := K h2 F
  have d2 : LAo h2 (x + 456) := la_fr (la_fw I.2.1.1 f1 (by omega)) F2 (by omega)
  refine ⟨t, z, h2, _, hz, e2, k1, ?_, fun q => ?_, li_2 I hN f1 F d2 l2 k3, rm_o8 k3, t0, t1⟩
  · have := S_X8_thrown (E := E) (h := h2) (am := x + 444) (M := M2)
    rw [k2] at this
    exact this
  · rw [gD_fr mw_fr (by omega)]
    exact g2 q
theorem two_d {sh : Value → Prop} (B : Bo E T' x h m7 m8 vs xs sh) (hsh : ∀ v, sh v → ∃ p, v = .double p) (I : LI T x N c s h) (hN : N ≤ x) (HH : ∀ r h1 t x0, q_cl E m7 (.ref x :: vs) h = some (r, h1) → Rs xs r t (.double x0) → DAo h1 (x + 457) → HpD E mL (.ref x :: (vs ++ [.ref (x + 457)])) h h1 (x + 457) t x0) :
    ∃ t z h2 h3, q_cl E mL (.ref x :: (vs ++ [.ref (x + 457)])) h = some (.inl (some (.int (zi t))), h2) ∧ q_cl E m8 (.ref (x + 444) :: vs) h2 = some (.inl (some (.double z)), h3) ∧ q_cl E q_m_X8_thrown [.ref (x + 444)] h3 = some (.inl (some (.int (zi t))), h3) ∧ (t = 0 → q_gD h3 (x + 457) (zi 0) = some (.double z)) ∧ (LI T' x N (c + 1) (s + 6) h3 ∧ Lo h2 N ∧ ∃ fs, h2.1 (x + 444) = some (.inr (8, fs))) ∧ (∃ fs, h3.1 (x + 444) = some (.inr (8, fs))) ∧ 0 ≤ t ∧ t ≤ 2 := by
  obtain ⟨r, h1, t, v, e1, f1, hr, hv, K⟩ := B
  obtain ⟨z, rfl⟩ := hsh v hv
  obtain ⟨h2, e2, F2, g2, l2, t0, t1⟩ := HH r h1 t z e1 hr (da_fw I.2.1.2 f1 (by omega))
  have F : Fr (x + 456) 2 h1 h2 := fr_in F2 (by omega) (by omega)
  obtain ⟨M2, k1, k2, k3⟩ := K h2 F
  have d2 : LAo h2 (x + 456) := la_fr (la_fw I.2.1.1 f1 (by omega)) F2 (by omega)
  refine ⟨t, z, h2, _, e2, k1, ?_, fun q => ?_, li_2 I hN f1 F d2 l2 k3, rm_o8 k3, t0, t1⟩
  · have := S_X8_thrown (E := E) (h := h2) (am := x + 444) (M := M2)
    rw [k2] at this
    exact this
  · rw [gD_fr mw_fr (by omega)]
    exact g2 q
/-- a call without exceptions: the class's, then the reference's -/
theorem two_0 (B : Bo E T' x h m7 m8 vs [] isI) (I : LI T x N c s h) (hN : N ≤ x) : ∃ z h2 h3, (-2147483648 ≤ z ∧ z < 2147483648) ∧ q_cl E m7 (.ref x :: vs) h = some (.inl (some (.int (zi z))), h2) ∧ q_cl E m8 (.ref (x + 444) :: vs) h2 = some (.inl (some (.int (zi z))), h3) ∧ LI T' x N (c + 1) (s + 6) h3 ∧ ∃ fs, h2.1 (x + 444) = some (.inr (8, fs)) := by
  obtain ⟨r, h1, t, v, e1, f1, hr, ⟨z0, rfl⟩, K⟩ := B
  have F : Fr (x + 456) 2 h1 h1 := fr_rf
  obtain ⟨M2, k1, k2, k3⟩ := K h1 F
  obtain ⟨z, ez, z1, z2⟩ := zi_of (zi z0)
  rw [ez] at k1 hr
  rcases hr with ⟨ht, hr⟩ | ⟨e, _, _, hr⟩
  · rw [hr] at e1
    obtain ⟨q1, q2, q3⟩ := li_2 I hN f1 F (la_fw I.2.1.1 f1 (by omega)) (da_fw I.2.1.2 f1 (by omega)) k3
    exact ⟨z, h1, _, ⟨z1, z2⟩, e1, k1, q1, q3⟩
  · exact absurd (show none = some e from hr) (fun z => by cases z)
theorem gI_s (hS : E.2 b = some (.int, L, fun j => .int (ys j))) (hL : L ≤ 2560) (h0 : h.1 b = none) (hi : 0 ≤ k) (hk : k < L) : q_gI E h 0 .int b (zi k) = some (.int (ys k.toNat)) := by
  unfold q_gI
  rw [h0]
  simp only [hS]
  rw [if_pos ⟨trivial, zi_in hi hk (by omega)⟩, zi_nat hi (by omega)]
theorem lc_self {p : Int64} : lg_cmp p p = zi 0 := lc_0.mpr rfl
theorem i2c_r (p : Int32) : ∃ y, (p.toUInt32 % 65536).toInt32 = zi y ∧ 0 ≤ y ∧ y < 65536 := by
  refine ⟨((p.toUInt32 % 65536).toNat : Int), ?_, by omega, ?_⟩
  · apply Int32.toBitVec_inj.mp
    apply BitVec.eq_of_toNat_eq
    show (p.toUInt32 % 65536).toNat = (p.toUInt32 % 65536).toNat % 2 ^ 32
    have : (p.toUInt32 % 65536).toNat < 2 ^ 32 := (p.toUInt32 % 65536).toNat_lt
    omega
  · rw [UInt32.toNat_mod, show (65536 : UInt32).toNat = 65536 from rfl]
    omega
end TWO
