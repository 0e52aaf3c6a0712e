/-! both objects in the heap: the class's at x (444 places), the reference's behind it (12 places) -/
def Fw (x : Nat) (h h' : q_H) : Prop := (∀ a, a < x ∨ x + 444 ≤ a → h'.1 a = h.1 a) ∧ h'.2.2.1 ≤ h.2.2.1 + 1 ∧ h'.2.2.2 ≤ h.2.2.2 + 6
def RM (T : Int) (x : Nat) (h : q_H) (M : q_Im) : Prop := h = q_mw h (x + 444) M ∧ ∃ l ls nx ct kl n c hs fa kr kd_, CA h x l ls nx ct kl n c hs fa kr kd_ ∧ OBx T l ls nx ct kl n c hs fa kr kd_ M
/-- an outcome of the class against what the reference says was thrown (by its place in the list), and its value -/
def Rs (xs : List String) (r : q_R) (t : Int) (v : Value) : Prop := (t = 0 ∧ r = .inl (some v)) ∨ (∃ e, r = .inr e ∧ 1 ≤ t ∧ xs[t.toNat - 1]? = some e)
def isI (v : Value) : Prop := ∃ z, v = .int (zi z)
/-- one call, first of the class, then of the reference -/
def Bo (E : q_E) (T : Int) (x : Nat) (h : q_H) (m7 m8 : q_M) (vs : List Value) (xs : List String) (sh : Value → Prop) : Prop := ∃ r h1 t v, q_cl E m7 (.ref x :: vs) h = some (r, h1) ∧ Fw x h h1 ∧ Rs xs r t v ∧ sh v ∧ ∀ h1', Fr (x + 456) 2 h1 h1' → ∃ M2, q_cl E m8 (.ref (x + 444) :: vs) h1' = some (.inl (some v), q_mw h1' (x + 444) M2) ∧ M2 0 5 = t ∧ RM T x (q_mw h1' (x + 444) M2) M2
section TW
variable {E : q_E} {h h' h0 h1 h1' : q_H} {x N : Nat} {l l' ls c rl : Int → Int} {kl : Int → Int → Int} {T T' nx ct n hs fa kr kd_ v v2 y z : Int} {rf : Int × Int} {M M1 M2 : q_Im} {r : q_R} {m7 m8 : q_M} {vs : List Value} {xs : List String} {sh : Value → Prop}
theorem ca_fr {b m : Nat} (H : CA h x l ls nx ct kl n c hs fa kr kd_) (F : Fr b m h h') (k : x + 444 ≤ b) : CA h' x l ls nx ct kl n c hs fa kr kd_ := by
  obtain ⟨e1, ⟨p, e2⟩, e3, e4, e5, e6, e7⟩ := H
  exact ⟨(F.2 x (by omega)).trans e1, ⟨p, wh_fr e2 F (by omega)⟩, sn_fr e3 F (by omega), hi_fr e4 F (by omega), tx_fr e5 F (by omega), ds_fr e6 F (by omega), plx_fr e7 F (by omega)⟩
theorem ca_thr (H : CA h x l ls nx ct kl n c hs fa kr kd_) : CA (thr_ h) x l ls nx ct kl n c hs fa kr kd_ := H
theorem mw_fr {am : Nat} : Fr am 12 h (q_mw h am M) := ⟨rfl, fun _ k => m_out k⟩
theorem self_fr (hs : h = q_mw h (x + 444) M) (F0 : ∀ a, x + 444 ≤ a → a < x + 456 → h1.1 a = h.1 a) (F : Fr (x + 456) 2 h1 h1') : h1' = q_mw h1' (x + 444) M := mw_self fun j hj => ((F.2 _ (by omega)).trans (F0 _ (by omega) (by omega))).trans ((congrFun (congrArg Prod.fst hs) _).trans (m_at j hj))
theorem rm_of (C : CA h1 x l ls nx ct kl n c hs fa kr kd_) (F : Fr (x + 456) 2 h1 h1') (O : OBx T l ls nx ct kl n c hs fa kr kd_ M2) : RM T x (q_mw h1' (x + 444) M2) M2 :=
  ⟨mw_self fun j hj => m_at j hj, l, ls, nx, ct, kl, n, c, hs, fa, kr, kd_, ca_fr (ca_fr C F (by omega)) mw_fr (by omega), O⟩
theorem fw_fr (F : Fr x 444 h h1) : Fw x h h1 := ⟨fun a k => F.2 a (by omega), by rw [F.1]; omega, by rw [F.1]; omega⟩
theorem fw_thr (F : Fr x 444 h h0) : Fw x h (thr_ h0) := by
  have e := F.1
  refine ⟨fun a k => F.2 a (by omega), ?_, ?_⟩
  · show h0.2.2.1 + 1 ≤ _
    rw [e]; omega
  · show h0.2.2.2 + 6 ≤ _
    rw [e]; omega
/-- a change: done or refused on both sides -/
theorem p_mut (hsf : h = q_mw h (x + 444) M) (hO : OBx T l ls nx ct kl n c hs fa kr kd_ M1) (h5 : M1 0 5 = 0) (hM : Mut h x l ls nx ct kl n c hs fa kr kd_ rf v l' r h1) (hk : K20 rf) (hT : T ≤ T') (h0 : 0 ≤ T) (hd : rf.1 = 0 → StR T' l' rl ∧ v = v2) :
    Fw x h h1 ∧ Rs [xUO] r ((mMu2 M1 rf v2 rl).2 0 5) (.int (zi (mMu2 M1 rf v2 rl).1)) ∧ ∀ h1', Fr (x + 456) 2 h1 h1' → h1' = q_mw h1' (x + 444) M ∧ RM T' x (q_mw h1' (x + 444) (mMu2 M1 rf v2 rl).2) (mMu2 M1 rf v2 rl).2 := by
  rcases hM with ⟨z, er, nx', ct', kl', hP, hC, hF⟩ | ⟨z, er, g, hC, hF, e1⟩
  · obtain ⟨d1, d2⟩ := hd z
    have em : mMu2 M1 rf v2 rl = (v2, uA (mch M1) 1 rl) := if_pos z
    rw [em]
    refine ⟨fw_fr hF, .inl ⟨?_, by rw [er, d2]⟩, fun h1' F => ⟨self_fr hsf (fun a _ _ => hF.2 a (by omega)) F, rm_of hC F (ob_done hO hP d1 hT h0)⟩⟩
    show mch M1 0 5 = 0
    exact (mch_0 (by decide)).trans h5
  · have em : mMu2 M1 rf v2 rl = (0, mrf M1 rf.1 rf.2) := if_neg z
    rw [em, e1]
    refine ⟨fw_thr hF, .inr ⟨xUO, er, ?_, ?_⟩, fun h1' F => ⟨self_fr (h1 := thr_ g) hsf (fun a _ _ => show g.1 a = h.1 a from hF.2 a (by omega)) F, ?_⟩⟩
    · show (1 : Int) ≤ 1; omega
    · rfl
    · have o1 := ob_ref (d := rf.2) hO (k := rf.1) (by have := hk.1; have := hk.2; omega)
      obtain ⟨q1, q2, q3, q4, q5, q6⟩ := o1
      exact rm_of (ca_thr hC) F ⟨st_mono q1 hT h0, oh_mono q2 hT h0, ⟨q3.1, q3.2.1, fun z => kp_mono (q3.2.2 z) hT h0⟩, q4, q5, q6⟩
theorem rm_mono (H : RM T x h M) (hT : T ≤ T') (h0 : 0 ≤ T) : RM T' x h M := by
  obtain ⟨a, l, ls, nx, ct, kl, n, c, hs, fa, kr, kd_, hC, q1, q2, q3, q4, q5, q6⟩ := H
  exact ⟨a, l, ls, nx, ct, kl, n, c, hs, fa, kr, kd_, hC, st_mono q1 hT h0, oh_mono q2 hT h0, ⟨q3.1, q3.2.1, fun z => kp_mono (q3.2.2 z) hT h0⟩, q4, q5, q6⟩
theorem bo_mono (H : Bo E T x h m7 m8 vs xs sh) (hT : T ≤ T') (h0 : 0 ≤ T) : Bo E T' x h m7 m8 vs xs sh := by
  obtain ⟨r, h1, t, v, a, b, c, d, e⟩ := H
  refine ⟨r, h1, t, v, a, b, c, d, fun h1' F => ?_⟩
  obtain ⟨M2, e1, e2, e3⟩ := e h1' F
  exact ⟨M2, e1, e2, rm_mono e3 hT h0⟩
/-- a reading -/
theorem p_rd {o : Sum String Int} {p : Int × Int} (hsf : h = q_mw h (x + 444) M) (hR : RDx h x l ls nx ct kl n c hs fa kr kd_ o r h1) (hm : Mt xs o p) : Fw x h h1 ∧ Rs xs r p.1 (.int (zi p.2)) ∧ ∀ h1', Fr (x + 456) 2 h1 h1' → h1' = q_mw h1' (x + 444) M ∧ ∀ M2, OBx T l ls nx ct kl n c hs fa kr kd_ M2 → RM T x (q_mw h1' (x + 444) M2) M2 := by
  obtain ⟨g, hC, hF, hD⟩ := hR
  cases o with
  | inl e =>
    obtain ⟨d1, d2⟩ := hD
    rw [d2]
    exact ⟨fw_thr hF, .inr ⟨e, d1, hm.1, hm.2⟩, fun h1' F => ⟨self_fr (h1 := thr_ g) hsf (fun a _ _ => show g.1 a = h.1 a from hF.2 a (by omega)) F, fun M2 O => rm_of (ca_thr hC) F O⟩⟩
  | inr v =>
    obtain ⟨d1, d2⟩ := hD
    rw [d2]
    exact ⟨fw_fr hF, .inl ⟨hm.1, by rw [d1, hm.2]⟩, fun h1' F => ⟨self_fr hsf (fun a _ _ => hF.2 a (by omega)) F, fun M2 O => rm_of hC F O⟩⟩
/-- a reading of floats -/
theorem p_rv {o : Sum String Value} {t : Int} {w : Value} (hsf : h = q_mw h (x + 444) M) (hC : CA h x l ls nx ct kl n c hs fa kr kd_) (hR : RDV h o r h1) (hm : MtV xs o t w) : Fw x h h1 ∧ Rs xs r t w ∧ ∀ h1', Fr (x + 456) 2 h1 h1' → h1' = q_mw h1' (x + 444) M ∧ ∀ M2, OBx T l ls nx ct kl n c hs fa kr kd_ M2 → RM T x (q_mw h1' (x + 444) M2) M2 := by
  have hF : Fr x 444 h h := fr_rf
  cases o with
  | inl e =>
    obtain ⟨d2, d1⟩ := hR
    rw [d2]
    exact ⟨fw_thr hF, .inr ⟨e, d1, hm.1, hm.2⟩, fun h1' F => ⟨self_fr (h1 := thr_ h) hsf (fun a _ _ => rfl) F, fun M2 O => rm_of (ca_thr hC) F O⟩⟩
  | inr v =>
    obtain ⟨d2, d1⟩ := hR
    rw [d2]
    exact ⟨fw_fr hF, .inl ⟨hm.1, by rw [d1, hm.2]⟩, fun h1' F => ⟨self_fr hsf (fun a _ _ => rfl) F, fun M2 O => rm_of hC F O⟩⟩
theorem P_add (hR : RM T x h M) (h0 : 0 ≤ T) (y0 : -2147483648 ≤ y) (y1 : y < 2147483648) (z0 : -2147483648 ≤ z) (z1 : z < 2147483648) : Bo E T x h q_m_X7_add q_m_X8_add [.int (zi y), .int (zi z)] [xUO] isI := by
  obtain ⟨hsf, l, ls, nx, ct, kl, n, c, hs, fa, kr, kd_, hC, hO⟩ := hR
  have hct : 0 ≤ M 0 4 ∧ M 0 4 ≤ 8 := by rw [← hO.2.1.2.1]; exact hO.2.1.2.2.1
  obtain ⟨r, h1, e1, hM⟩ := S_X7_add (E := E) hC (st_rg hO.1) hO.2.1.1 hO.2.1.2.2.1 y0 y1 z0 z1
  obtain ⟨f1, f2, f3⟩ := p_mut (v2 := M 1 3) (rl := rAdd (M 1) y z) hsf (ob_5 (t := 0) hO) rfl hM k20_add (Int.le_refl T) h0 (fun q => d_add hO.1 q)
  refine ⟨r, h1, _, _, e1, f1, f2, ⟨_, rfl⟩, fun h1' F => ?_⟩
  obtain ⟨g1, g2⟩ := f3 h1' F
  obtain ⟨r2, h2, e2, e3, e4⟩ := S_X8_add (E := E) (h := h1') (am := x + 444) (M := M) hO.1.2.1.1 hct y0 y1 z0 z1
  rw [← g1, e3, e4, ← rf_add hO.1.1 hO.1.2.1] at e2
  exact ⟨_, e2, rfl, g2⟩
end TW
