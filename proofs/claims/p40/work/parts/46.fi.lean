/-! the first plan: what the end of the search says -/
/-- by whom, again and again -/
def jc (Pi : Int → Int) (hd : Int) : Nat → Int
  | 0 => hd
  | k + 1 => Pi (jc Pi hd k)
section FIY
variable {l q o Pi Wy : Int → Int} {ro g n hd wy : Int}
theorem fi_none (hR : RgC l) (hr : isR l ro) (hg : isC l g) (h : FI l ro g (gtu l ro g) q o Pi Wy n hd wy) (hh : 0 ≤ hd) (hp : ∀ j, 0 ≤ j → j < n → q j / 48 < l 7 → j < hd) : fT l ro g = -1 := by
  have gc := hR.2.2.2.2.2.1
  have hc := (rgc_r hR hr).1
  have ha := fi_all hR hr h hh (l 7) (Int.le_refl _) hp
  obtain ⟨h0, h1, h2, h3, h4, h5, h6, h7⟩ := h
  refine fnd_no (fun t a b => ?_)
  rintro ⟨k, kg⟩
  obtain ⟨i, hi, e⟩ := ha t.toNat g (by omega) k
  by_cases z : i = 0
  · rw [z, h0.2] at e; omega
  · exact (h2 i (by omega) hi.2).2.2.2.2.2 ⟨by omega, by omega⟩
/-- the goal found: ticks -/
theorem fi_T (hR : RgC l) (hr : isR l ro) (hg : isC l g) (h : FI l ro g (gtu l ro g) q o Pi Wy n hd wy) (hh : 0 ≤ hd ∧ hd < n) (hw : 0 ≤ wy ∧ wy ≤ 4) (hn : q hd / 48 + 1 ≤ l 7) (hk : nok l ro q hd wy) (e : bes l (q hd % 48) wy = g) (hgt : gtu l ro g < q hd / 48 + 1) : fT l ro g = q hd / 48 + 1 := by
  have gc := hR.2.2.2.2.2.1
  have hc := (rgc_r hR hr).1
  have hmo := fi_mono hR (by omega) h
  have ha := fi_all hR hr h hh.1 (q hd / 48) (by omega) (fun j a b c => by
    rcases Int.lt_or_le j hd with y | y
    · exact y
    · have := hmo _ hd j rfl hh.1 y b
      omega)
  have hb := fi_rea hR hr h hd.toNat hd rfl hh.1 hh.2
  obtain ⟨h0, h1, h2, h3, h4, h5, h6, h7⟩ := h
  have hx := h1 hd hh.1 hh.2
  refine fnd_y (by omega) (by omega) (by omega) ⟨?_, hgt⟩ (fun t a b => ?_)
  · rw [show (q hd / 48 + 1).toNat = (q hd / 48).toNat + 1 by omega]
    obtain ⟨u, hu, eu⟩ := bes_sym hR hx.2.2 (w := wy) hw rfl hk.1
    rw [e] at eu
    refine ⟨hg, u, hu, by rw [eu]; exact hx.2.2.1, by rw [eu]; exact hb, ?_⟩
    rw [eu, Int.toNat_of_nonneg (by omega)]
    have := hk.2
    rw [e] at this
    exact this
  · rintro ⟨k, kg⟩
    obtain ⟨i, hi, ei⟩ := ha t.toNat g (by omega) k
    by_cases z : i = 0
    · rw [z, h0.2] at ei; omega
    · exact (h2 i (by omega) hi.2).2.2.2.2.2 ⟨by omega, by omega⟩
/-- the goal found: the way back, and that it takes the first directions -/
theorem fi_G (hR : RgC l) (hr : isR l ro) (hg : isC l g) {gt : Int} (h : FI l ro g gt q o Pi Wy n hd wy) (hh : 0 ≤ hd ∧ hd < n) (hw : 0 ≤ wy ∧ wy ≤ 4) (hn : q hd / 48 + 1 ≤ l 7) (hk : nok l ro q hd wy) (e : bes l (q hd % 48) wy = g) (ho : o (nch l q hd wy) = -1) :
    (∀ j : Nat, (j : Int) < q hd / 48 + 1 → 0 ≤ ndc (u1 o (nch l q hd wy) (q hd)) ((q hd / 48 + 1) * 48 + g) j ∧ ndc (u1 o (nch l q hd wy) (q hd)) ((q hd / 48 + 1) * 48 + g) j < 1488) ∧
    Grd l ro g (q hd / 48 + 1) (fun t => ndc (u1 o (nch l q hd wy) (q hd)) ((q hd / 48 + 1) * 48 + g) (q hd / 48 + 1 - t).toNat % 48) := by
  have gc := hR.2.2.2.2.2.1
  have g7 := hR.2.2.2.2.2.2.2.2.1
  have hc := (rgc_r hR hr).1
  obtain ⟨kn, _⟩ := fi_new (by omega) h hh ho (by omega) ⟨hk.1, by rw [e]; omega⟩
  obtain ⟨h0, h1, h2, h3, h4, h5, h6, h7⟩ := h
  have hx := h1 hd hh.1 hh.2
  have en : nch l q hd wy = (q hd / 48 + 1) * 48 + g := by unfold nch; rw [e]
  rw [en] at kn ho ⊢
  generalize hT : q hd / 48 + 1 = T at *
  generalize hch : T * 48 + g = ch at *
  -- the way back, node by node
  have F : ∀ k : Nat, (k : Int) < T → (0 ≤ jc Pi hd k ∧ jc Pi hd k < n ∧ jc Pi hd k ≤ hd) ∧ q (jc Pi hd k) / 48 = T - 1 - k ∧ ndc (u1 o ch (q hd)) ch (k + 1) = q (jc Pi hd k) := by
    intro k
    induction k with
    | zero =>
      intro _
      exact ⟨⟨hh.1, hh.2, Int.le_refl _⟩, by show q hd / 48 = T - 1 - 0; omega, u1_eq⟩
    | succ k ih =>
      intro a
      obtain ⟨i1, i2, i3⟩ := ih (by omega)
      have hne : jc Pi hd k ≠ 0 := fun z => by rw [z, h0.2] at i2; omega
      obtain ⟨t1, t2, t3, t4, t5, t6⟩ := h2 (jc Pi hd k) (by omega) i1.2.1
      have p1 := h1 (Pi (jc Pi hd k)) t1.1 (by omega)
      have hb := besC_r (w := Wy (jc Pi hd k)) hR p1.2.2
      have f1 : nch l q (Pi (jc Pi hd k)) (Wy (jc Pi hd k)) = (q (Pi (jc Pi hd k)) / 48 + 1) * 48 + bes l (q (Pi (jc Pi hd k)) % 48) (Wy (jc Pi hd k)) := rfl
      have k1 := t3.1
      refine ⟨⟨t1.1, by show Pi (jc Pi hd k) < n; omega, by show Pi (jc Pi hd k) ≤ hd; omega⟩, ?_, ?_⟩
      · show q (Pi (jc Pi hd k)) / 48 = T - 1 - ((k + 1 : Nat) : Int)
        omega
      · show u1 o ch (q hd) (ndc (u1 o ch (q hd)) ch (k + 1)) = q (Pi (jc Pi hd k))
        rw [i3, u1_ne (kn _ i1.1 i1.2.1), t5]
  have N0 : ndc (u1 o ch (q hd)) ch 0 = ch := rfl
  -- a node's step
  have St : ∀ k : Nat, (k : Int) < T → ∃ w, (0 ≤ w ∧ w ≤ 4) ∧ nok l ro q (jc Pi hd k) w ∧ bes l (q (jc Pi hd k) % 48) w = ndc (u1 o ch (q hd)) ch k % 48 ∧ (k = 0 → w = wy) ∧ (∀ k' : Nat, k = k' + 1 → w = Wy (jc Pi hd k') ∧ 0 < jc Pi hd k') := by
    intro k hkT
    match k, hkT with
    | 0, _ => exact ⟨wy, hw, hk, by rw [N0]; show bes l (q hd % 48) wy = ch % 48; rw [e]; omega, fun _ => rfl, fun k' z => by omega⟩
    | k + 1, hkT =>
      obtain ⟨i1, i2, i3⟩ := F k (by omega)
      have hne : jc Pi hd k ≠ 0 := fun z => by rw [z, h0.2] at i2; omega
      obtain ⟨t1, t2, t3, t4, t5, t6⟩ := h2 (jc Pi hd k) (by omega) i1.2.1
      have p1 := h1 (Pi (jc Pi hd k)) t1.1 (by omega)
      have hb := besC_r (w := Wy (jc Pi hd k)) hR p1.2.2
      have f1 : nch l q (Pi (jc Pi hd k)) (Wy (jc Pi hd k)) = (q (Pi (jc Pi hd k)) / 48 + 1) * 48 + bes l (q (Pi (jc Pi hd k)) % 48) (Wy (jc Pi hd k)) := rfl
      have k1 := t3.1
      refine ⟨Wy (jc Pi hd k), t2, t3, ?_, fun z => by omega, fun k' z => ?_⟩
      · rw [i3]
        show bes l (q (Pi (jc Pi hd k)) % 48) (Wy (jc Pi hd k)) = _
        omega
      · have : k = k' := by omega
        subst this
        exact ⟨rfl, by omega⟩
  have Gb : ∀ k : Nat, (k : Int) ≤ T → gob l ro g T k (ndc (u1 o ch (q hd)) ch k % 48) := by
    intro k
    induction k with
    | zero =>
      intro _
      show ch % 48 = g
      omega
    | succ k ih =>
      intro a
      obtain ⟨w, w1, w2, w3, _, _⟩ := St k (by omega)
      obtain ⟨i1, i2, i3⟩ := F k (by omega)
      refine ⟨w, w1, ?_⟩
      rw [i3, w3]
      have := w2.2
      rw [w3, i2] at this
      rw [show T - (k : Int) - 1 = T - 1 - k by omega]
      have c0 := w2.1
      rw [w3] at c0
      exact ⟨c0, this, ih (by omega)⟩
  -- nothing earlier in the queue comes to the goal in time
  have L : ∀ (m : Nat) (v i : Int), (0 ≤ v ∧ v < 48) → (m : Int) < T → gob l ro g T m v → 0 ≤ i → i < n → q i = (T - m) * 48 + v → (∀ m' : Nat, m = m' + 1 → i < jc Pi hd m') → False := by
    intro m
    induction m with
    | zero =>
      intro v i _ _ gv a b c _
      have : v = g := gv
      exact kn i a b (by rw [c, this]; omega)
    | succ m ih =>
      rintro v i hv mT ⟨w, w1, w2, w3, w4⟩ a b c d
      have dj := d m rfl
      obtain ⟨i1, i2, i3⟩ := F m (by omega)
      have hi := h1 i a b
      have e1 : q i / 48 = T - m - 1 := by omega
      have e2 : q i % 48 = v := by omega
      obtain ⟨i', hi', ei', pi'⟩ := h7 i w a (by omega) b w1.1 w1.2 ⟨by rw [e2]; exact w2, by rw [e2, e1]; exact w3⟩
      have f1 : nch l q i w = (q i / 48 + 1) * 48 + bes l (q i % 48) w := rfl
      have hbv := besC_r (w := w) hR (show isC l v by rw [← e2]; exact hi.2.2)
      refine ih (bes l v w) i' (by omega) (by omega) w4 (by omega) hi'.2 (by rw [ei', f1, e1, e2]; omega) (fun m' z => ?_)
      subst z
      have hm := F m' (by omega)
      have hne : jc Pi hd m' ≠ 0 := fun z => by have := hm.2.1; rw [z, h0.2] at this; omega
      have ej : Pi (jc Pi hd m') = jc Pi hd (m' + 1) := rfl
      rcases Int.lt_trichotomy i' (jc Pi hd m') with y | y | y
      · exact y
      · rw [y, ej] at pi'; omega
      · have := h3 (jc Pi hd m') i' (by omega) y hi'.2
        rw [ej] at this
        omega
  have eT (t : Int) (a : 0 ≤ t) (b : t < T) : (T - t).toNat = (T - 1 - t).toNat + 1 := by omega
  refine ⟨fun j hj => ?_, ?_, fun t a b => ?_⟩
  · match j, hj with
    | 0, _ => rw [N0]; omega
    | j + 1, hj =>
      obtain ⟨i1, i2, i3⟩ := F j (by omega)
      rw [i3]
      exact (h1 _ i1.1 i1.2.1).1
  · show ndc (u1 o ch (q hd)) ch (T - 0).toNat % 48 = rb l ro 0
    obtain ⟨i1, i2, i3⟩ := F (T - 1 - 0).toNat (by omega)
    rw [eT 0 (by omega) (by omega), i3]
    by_cases z : jc Pi hd (T - 1 - 0).toNat = 0
    · rw [z, h0.2]; omega
    · obtain ⟨t1, t2, t3, t4, t5, t6⟩ := h2 _ (by omega) i1.2.1
      have p1 := h1 (Pi (jc Pi hd (T - 1 - 0).toNat)) t1.1 (by omega)
      have f1 : nch l q (Pi (jc Pi hd (T - 1 - 0).toNat)) (Wy (jc Pi hd (T - 1 - 0).toNat)) = (q (Pi (jc Pi hd (T - 1 - 0).toNat)) / 48 + 1) * 48 + bes l (q (Pi (jc Pi hd (T - 1 - 0).toNat)) % 48) (Wy (jc Pi hd (T - 1 - 0).toNat)) := rfl
      have k1 := t3.1
      omega
  · have ek : (T - t - 1).toNat = (T - 1 - t).toNat := by omega
    have ek2 : (T - (t + 1)).toNat = (T - 1 - t).toNat := by omega
    obtain ⟨w, w1, w2, w3, w4, w5⟩ := St (T - 1 - t).toNat (by omega)
    obtain ⟨i1, i2, i3⟩ := F (T - 1 - t).toNat (by omega)
    have e1 : q (jc Pi hd (T - 1 - t).toNat) / 48 = t := by omega
    refine ⟨w, w1, ?_⟩
    dsimp only
    rw [eT t a b, ek2, i3, ek, ← w3]
    refine ⟨⟨rfl, w2.1⟩, ⟨by have := w2.2; rw [e1] at this; exact this, by rw [w3]; exact Gb _ (by omega)⟩, fun w' a' b' c' => ?_⟩
    obtain ⟨c1, c2, c3⟩ := c'
    have hjn : (jc Pi hd (T - 1 - t).toNat < hd ∨ (jc Pi hd (T - 1 - t).toNat = hd ∧ w' < wy)) := by
      by_cases z : (T - 1 - t).toNat = 0
      · have := w4 z
        rw [z]
        exact .inr ⟨rfl, by omega⟩
      · obtain ⟨k', hk'⟩ : ∃ k' : Nat, (T - 1 - t).toNat = k' + 1 := ⟨(T - 1 - t).toNat - 1, by omega⟩
        have hm := F k' (by omega)
        have hp := w5 k' hk'
        have := (h2 _ hp.2 hm.1.2.1).1
        rw [hk']
        left
        show Pi (jc Pi hd k') < hd
        omega
    obtain ⟨i', hi', ei', pi'⟩ := h7 _ w' i1.1 hjn i1.2.1 a' (by omega) ⟨c1, by rw [e1]; exact c2⟩
    have hbv := besC_r (w := w') hR (h1 _ i1.1 i1.2.1).2.2
    refine L _ _ i' (by omega) (by omega) c3 (by omega) hi'.2 (by rw [ei']; show (q (jc Pi hd (T - 1 - t).toNat) / 48 + 1) * 48 + _ = _; rw [e1]; omega) (fun m' z => ?_)
    have hm := F m' (by omega)
    have hp := w5 m' z
    have ej : Pi (jc Pi hd m') = jc Pi hd (T - 1 - t).toNat := by rw [z]; rfl
    rcases Int.lt_trichotomy i' (jc Pi hd m') with y | y | y
    · exact y
    · rw [y, ej] at pi'
      omega
    · have := h3 (jc Pi hd m') i' (by omega) y hi'.2
      rw [ej] at this
      omega
end FIY
