/-! the first plan: what holds while the class looks for it -/
/-- n ticks before T: the goal can still be come to -/
def gob (l : Int → Int) (ro g T : Int) : Nat → Int → Prop
  | 0, c => c = g
  | n + 1, c => ∃ w, (0 ≤ w ∧ w ≤ 4) ∧ 0 ≤ bes l c w ∧ mgo l ro c (bes l c w) (T - n - 1) ∧ gob l ro g T n (bes l c w)
/-- a way of T ticks that takes the first direction each time from which the goal can still be come to -/
def Grd (l : Int → Int) (ro g T : Int) (x : Int → Int) : Prop := x 0 = rb l ro 0 ∧ ∀ t, 0 ≤ t → t < T → ∃ w, (0 ≤ w ∧ w ≤ 4) ∧ (bes l (x t) w = x (t + 1) ∧ 0 ≤ x (t + 1)) ∧ (mgo l ro (x t) (x (t + 1)) t ∧ gob l ro g T (T - t - 1).toNat (x (t + 1))) ∧ ∀ w', 0 ≤ w' → w' < w → ¬ (0 ≤ bes l (x t) w' ∧ mgo l ro (x t) (bes l (x t) w') t ∧ gob l ro g T (T - t - 1).toNat (bes l (x t) w'))
abbrev nch (l q : Int → Int) (j w : Int) : Int := (q j / 48 + 1) * 48 + bes l (q j % 48) w
abbrev nok (l : Int → Int) (ro : Int) (q : Int → Int) (j w : Int) : Prop := 0 ≤ bes l (q j % 48) w ∧ mgo l ro (q j % 48) (bes l (q j % 48) w) (q j / 48)
/-- the queue q of n nodes (tick * 48 + cell), o where from, Pi and Wy by whom and by which direction; hd is looked at, its directions below wy are done -/
def FI (l : Int → Int) (ro g gt : Int) (q o Pi Wy : Int → Int) (n hd wy : Int) : Prop :=
  (1 ≤ n ∧ q 0 = rb l ro 0) ∧
  (∀ i, 0 ≤ i → i < n → (0 ≤ q i ∧ q i < 1488) ∧ q i / 48 ≤ l 7 ∧ isC l (q i % 48)) ∧
  (∀ i, 0 < i → i < n → (0 ≤ Pi i ∧ Pi i < i) ∧ (0 ≤ Wy i ∧ Wy i ≤ 4) ∧ nok l ro q (Pi i) (Wy i) ∧ q i = nch l q (Pi i) (Wy i) ∧ o (q i) = q (Pi i) ∧ ¬ (q i % 48 = g ∧ gt < q i / 48)) ∧
  (∀ i j, 0 < i → i < j → j < n → Pi i < Pi j ∨ (Pi i = Pi j ∧ Wy i < Wy j)) ∧
  (∀ i, 0 < i → i < n → Pi i < hd ∨ (Pi i = hd ∧ Wy i < wy)) ∧
  (∀ x, 0 ≤ x → x < 1488 → o x = -1 ∨ ∃ i, (0 < i ∧ i < n) ∧ q i = x) ∧
  (∀ i j, 0 ≤ i → i < n → 0 ≤ j → j < n → q i = q j → i = j) ∧
  (∀ j w, 0 ≤ j → (j < hd ∨ (j = hd ∧ w < wy)) → j < n → 0 ≤ w → w ≤ 4 → nok l ro q j w → ∃ i, (0 < i ∧ i < n) ∧ q i = nch l q j w ∧ (Pi i < j ∨ (Pi i = j ∧ Wy i ≤ w)))
section FIX
variable {l q o Pi Wy : Int → Int} {ro g gt n hd wy : Int}
theorem fi_0 {q0 : Int → Int} (hR : RgC l) (hr : isR l ro) : FI l ro g gt (u1 q0 0 (rb l ro 0)) (fun _ => -1) (fun _ => 0) (fun _ => 0) 1 0 0 := by
  have hc := (rgc_r hR hr).1
  have gc := hR.2.2.2.2.2.1
  have g7 := hR.2.2.2.2.2.2.2.2.1
  refine ⟨⟨Int.le_refl _, u1_eq⟩, fun i a b => ?_, fun i a b => by omega, fun i j a b c => by omega, fun i a b => by omega, fun x a b => .inl rfl, fun i j a b c d _ => by omega, fun j w a b c d e _ => by omega⟩
  rw [show i = 0 by omega, u1_eq]
  have e1 : rb l ro 0 / 48 = 0 := by omega
  have e2 : rb l ro 0 % 48 = rb l ro 0 := by omega
  rw [e1, e2]
  exact ⟨by omega, by omega, hc⟩
theorem fi_h (h : FI l ro g gt q o Pi Wy n hd 5) : FI l ro g gt q o Pi Wy n (hd + 1) 0 := by
  obtain ⟨h0, h1, h2, h3, h4, h5, h6, h7⟩ := h
  refine ⟨h0, h1, h2, h3, fun i a b => by have := h4 i a b; have := (h2 i a b).2.1; omega, h5, h6, fun j w a b c d e => h7 j w a (by omega) c d e⟩
theorem fi_w (h : FI l ro g gt q o Pi Wy n hd wy) (hh : 0 ≤ hd ∧ hd < n) (k : ¬ nok l ro q hd wy ∨ (¬ o (nch l q hd wy) = -1 ∧ 0 ≤ nch l q hd wy ∧ nch l q hd wy < 1488)) : FI l ro g gt q o Pi Wy n hd (wy + 1) := by
  obtain ⟨h0, h1, h2, h3, h4, h5, h6, h7⟩ := h
  refine ⟨h0, h1, h2, h3, fun i a b => by have := h4 i a b; omega, h5, h6, fun j w a b c d e f => ?_⟩
  by_cases z : j = hd ∧ w = wy
  · obtain ⟨z1, z2⟩ := z
    subst z1; subst z2
    rcases k with k | ⟨k, ka, kb⟩
    · exact absurd f k
    · rcases h5 _ ka kb with y | ⟨i, hi, e⟩
      · exact absurd y k
      · have := h4 i hi.1 hi.2
        exact ⟨i, hi, e, by omega⟩
  · exact h7 j w a (by omega) c d e f
theorem fi_new (hc : 0 ≤ rb l ro 0 ∧ rb l ro 0 < 48) (h : FI l ro g gt q o Pi Wy n hd wy) (hh : 0 ≤ hd ∧ hd < n) (k : o (nch l q hd wy) = -1) (hn : q hd / 48 + 1 ≤ 30) (hb : 0 ≤ bes l (q hd % 48) wy ∧ bes l (q hd % 48) wy < 48) : (∀ i, 0 ≤ i → i < n → q i ≠ nch l q hd wy) ∧ n < 1488 := by
  obtain ⟨h0, h1, h2, h3, h4, h5, h6, h7⟩ := h
  have hx := h1 hd hh.1 hh.2
  have en : nch l q hd wy = (q hd / 48 + 1) * 48 + bes l (q hd % 48) wy := rfl
  have key : ∀ i, 0 ≤ i → i < n → q i ≠ nch l q hd wy := by
    intro i a b e
    by_cases z : i = 0
    · rw [z, h0.2] at e
      omega
    · have hi := h2 i (by omega) b
      have e2 := hi.2.2.2.2.1
      rw [e, k] at e2
      have := h1 (Pi i) hi.1.1 (by omega)
      omega
  refine ⟨key, ?_⟩
  have := pig 1488 (n.toNat + 1) (fun i => if (i : Int) < n then (q i).toNat else (nch l q hd wy).toNat) (fun i hi => ?_) (fun i j hi hj e => ?_)
  · omega
  · show (if (i : Int) < n then (q i).toNat else (nch l q hd wy).toNat) < 1488
    by_cases z : (i : Int) < n
    · rw [if_pos z]
      have := h1 i (by omega) z
      omega
    · rw [if_neg z]
      omega
  · have e : (if (i : Int) < n then (q i).toNat else (nch l q hd wy).toNat) = (if (j : Int) < n then (q j).toNat else (nch l q hd wy).toNat) := e
    by_cases z : (i : Int) < n
    · rw [if_pos z] at e
      have a1 := h1 i (by omega) z
      by_cases y : (j : Int) < n
      · rw [if_pos y] at e
        have a2 := h1 j (by omega) y
        have := h6 i j (by omega) z (by omega) y (by omega)
        omega
      · rw [if_neg y] at e
        exact absurd (show q i = nch l q hd wy by omega) (key i (by omega) z)
    · rw [if_neg z] at e
      by_cases y : (j : Int) < n
      · rw [if_pos y] at e
        have a2 := h1 j (by omega) y
        exact absurd (show q j = nch l q hd wy by omega) (key j (by omega) y)
      · omega
theorem fi_a (hR : RgC l) (hc : 0 ≤ rb l ro 0 ∧ rb l ro 0 < 48) (h : FI l ro g gt q o Pi Wy n hd wy) (hh : 0 ≤ hd ∧ hd < n) (hw : 0 ≤ wy ∧ wy ≤ 4) (k : o (nch l q hd wy) = -1) (hn : q hd / 48 + 1 ≤ l 7) (hk : nok l ro q hd wy) (hb : bes l (q hd % 48) wy < cs l) (he : ¬ (bes l (q hd % 48) wy = g ∧ gt < q hd / 48 + 1)) :
    FI l ro g gt (u1 q n (nch l q hd wy)) (u1 o (nch l q hd wy) (q hd)) (u1 Pi n hd) (u1 Wy n wy) (n + 1) hd (wy + 1) := by
  have gc := hR.2.2.2.2.2.1
  have g7 := hR.2.2.2.2.2.2.2.2.1
  obtain ⟨kn, k1488⟩ := fi_new hc h hh k (by omega) ⟨hk.1, by omega⟩
  obtain ⟨h0, h1, h2, h3, h4, h5, h6, h7⟩ := h
  have hx := h1 hd hh.1 hh.2
  have en : nch l q hd wy = (q hd / 48 + 1) * 48 + bes l (q hd % 48) wy := rfl
  have qn : u1 q n (nch l q hd wy) n = nch l q hd wy := u1_eq
  have qo (i : Int) (hi : i < n) : u1 q n (nch l q hd wy) i = q i := u1_ne (by omega)
  have Pn : u1 Pi n hd n = hd := u1_eq
  have Po (i : Int) (hi : i < n) : u1 Pi n hd i = Pi i := u1_ne (by omega)
  have Wn : u1 Wy n wy n = wy := u1_eq
  have Wo (i : Int) (hi : i < n) : u1 Wy n wy i = Wy i := u1_ne (by omega)
  have on : u1 o (nch l q hd wy) (q hd) (nch l q hd wy) = q hd := u1_eq
  have oo (x : Int) (hx : x ≠ nch l q hd wy) : u1 o (nch l q hd wy) (q hd) x = o x := u1_ne hx
  have d48 : nch l q hd wy / 48 = q hd / 48 + 1 := by have := hk.1; omega
  have m48 : nch l q hd wy % 48 = bes l (q hd % 48) wy := by have := hk.1; omega
  have nc (j w : Int) (hj : j < n) : nch l (u1 q n (nch l q hd wy)) j w = nch l q j w := by unfold nch; rw [qo j hj]
  have nk (j w : Int) (hj : j < n) : nok l ro (u1 q n (nch l q hd wy)) j w ↔ nok l ro q j w := by unfold nok; rw [qo j hj]
  generalize hq : u1 q n (nch l q hd wy) = q' at *
  generalize hp : u1 Pi n hd = P' at *
  generalize hy : u1 Wy n wy = W' at *
  generalize ho : u1 o (nch l q hd wy) (q hd) = o' at *
  refine ⟨⟨by omega, (qo 0 (by omega)).trans h0.2⟩, fun i a b => ?_, fun i a b => ?_, fun i j a b c => ?_, fun i a b => ?_, fun x a b => ?_, fun i j a b c d e => ?_, fun j w a b c d e f => ?_⟩
  · by_cases z : i = n
    · subst z
      rw [qn, d48, m48]
      exact ⟨by have := hk.1; omega, hn, hk.1, hb⟩
    · rw [qo i (by omega)]
      exact h1 i a (by omega)
  · by_cases z : i = n
    · subst z
      rw [Pn, Wn, qn, nc hd wy hh.2, nk hd wy hh.2, d48, m48, qo hd hh.2]
      exact ⟨hh, hw, hk, rfl, on, he⟩
    · have t := h2 i a (by omega)
      rw [Po i (by omega), Wo i (by omega), qo i (by omega), nc _ _ (by omega), nk _ _ (by omega), oo _ (kn i (by omega) (by omega)), qo _ (by omega)]
      exact t
  · by_cases z : j = n
    · subst z
      rw [Pn, Wn, Po i (by omega), Wo i (by omega)]
      exact h4 i a (by omega)
    · rw [Po i (by omega), Wo i (by omega), Po j (by omega), Wo j (by omega)]
      exact h3 i j a b (by omega)
  · by_cases z : i = n
    · subst z
      rw [Pn, Wn]
      exact .inr ⟨rfl, by omega⟩
    · rw [Po i (by omega), Wo i (by omega)]
      have := h4 i a (by omega)
      omega
  · by_cases z : x = nch l q hd wy
    · exact .inr ⟨n, by omega, by rw [qn]; exact z.symm⟩
    · rw [oo x z]
      rcases h5 x a b with y | ⟨i, hi, e⟩
      · exact .inl y
      · exact .inr ⟨i, by omega, by rw [qo i (by omega)]; exact e⟩
  · by_cases z : i = n
    · by_cases y : j = n
      · omega
      · subst z
        rw [qn, qo j (by omega)] at e
        exact absurd e.symm (kn j c (by omega))
    · by_cases y : j = n
      · subst y
        rw [qn, qo i (by omega)] at e
        exact absurd e (kn i a (by omega))
      · rw [qo i (by omega), qo j (by omega)] at e
        exact h6 i j a (by omega) c (by omega) e
  · have hj : j < n := by omega
    rw [nk j w hj] at f
    rw [nc j w hj]
    by_cases z : j = hd ∧ w = wy
    · obtain ⟨z1, z2⟩ := z
      subst z1; subst z2
      exact ⟨n, by omega, qn, .inr (by rw [Pn, Wn]; exact ⟨rfl, Int.le_refl _⟩)⟩
    · obtain ⟨i, hi, e1, e2⟩ := h7 j w a (by omega) hj d e f
      exact ⟨i, by omega, by rw [qo i (by omega)]; exact e1, by rw [Po i (by omega), Wo i (by omega)]; exact e2⟩
/-- neighbors see each other -/
theorem bes_sym (hR : RgC l) {a b : Int} (ha : isC l a) {w : Int} (hw : 0 ≤ w ∧ w ≤ 4) (e : bes l a w = b) (h0 : 0 ≤ b) : ∃ u, (0 ≤ u ∧ u ≤ 4) ∧ bes l b u = a := by
  obtain ⟨g0, g1, g2, g3, g4, gc, g5, g6, g7, gk, gl, gr, go⟩ := id hR
  have hb := besC_r (w := w) hR ha
  rw [e] at hb
  obtain ⟨a1, a2, a3, a4, a5, a6, a7, a8, a9⟩ := bes_f g0.1 g1.1 ha.1 ha.2
  have hbc : b < cs l := by omega
  obtain ⟨b1, b2, b3, b4, b5, b6, b7, b8, b9⟩ := bes_f (c := b) g0.1 g1.1 h0 hbc
  have eb : bes l a w = b := e
  unfold bes at e
  have ecs : cs l = l 0 * l 1 := rfl
  rcases (by omega : w = 0 ∨ w = 1 ∨ w = 2 ∨ w = 3 ∨ w = 4) with z | z | z | z | z
  · refine ⟨2, by omega, ?_⟩
    rw [if_pos z] at e
    unfold bes
    rw [if_neg (by omega), if_neg (by omega), if_pos (by omega)]
    by_cases y : l 1 ≤ a
    · rw [if_pos y] at e; rw [if_pos (by omega)]; omega
    · rw [if_neg y] at e; omega
  · refine ⟨3, by omega, ?_⟩
    rw [if_neg (by omega), if_pos z] at e
    unfold bes
    rw [if_neg (by omega), if_neg (by omega), if_neg (by omega), if_pos (by omega)]
    by_cases y : a % l 1 + 1 < l 1
    · rw [if_pos y] at e
      have : b % l 1 = a % l 1 + 1 := by
        rw [← e, ← a3, show l 1 * (a / l 1) + a % l 1 + 1 = (a % l 1 + 1) + l 1 * (a / l 1) by omega, Int.add_mul_emod_self_left, Int.emod_eq_of_lt (by omega) y]
        have q : (l 1 * (a / l 1) + a % l 1) % l 1 = a % l 1 := by rw [a3]
        rw [q]
      rw [if_pos (by omega)]; omega
    · rw [if_neg y] at e; omega
  · refine ⟨0, by omega, ?_⟩
    rw [if_neg (by omega), if_neg (by omega), if_pos z] at e
    unfold bes
    rw [if_pos rfl]
    by_cases y : a + l 1 < cs l
    · rw [if_pos y] at e; rw [if_pos (by omega)]; omega
    · rw [if_neg y] at e; omega
  · refine ⟨1, by omega, ?_⟩
    rw [if_neg (by omega), if_neg (by omega), if_neg (by omega), if_pos z] at e
    unfold bes
    rw [if_neg (by omega), if_pos rfl]
    by_cases y : 0 < a % l 1
    · rw [if_pos y] at e
      have : b % l 1 = a % l 1 - 1 := by
        rw [← e, ← a3, show l 1 * (a / l 1) + a % l 1 - 1 = (a % l 1 - 1) + l 1 * (a / l 1) by omega, Int.add_mul_emod_self_left, Int.emod_eq_of_lt (by omega) (by omega)]
        have q : (l 1 * (a / l 1) + a % l 1) % l 1 = a % l 1 := by rw [a3]
        rw [q]
      rw [if_pos (by omega)]; omega
    · rw [if_neg y] at e; omega
  · refine ⟨4, by omega, ?_⟩
    rw [if_neg (by omega), if_neg (by omega), if_neg (by omega), if_neg (by omega)] at e
    unfold bes
    rw [if_neg (by omega), if_neg (by omega), if_neg (by omega), if_neg (by omega)]
    omega
/-- ticks don't fall along the queue -/
theorem fi_mono (hR : RgC l) (hc : 0 ≤ rb l ro 0 ∧ rb l ro 0 < 48) (h : FI l ro g gt q o Pi Wy n hd wy) : ∀ (m : Nat) (i j : Int), j.toNat = m → 0 ≤ i → i ≤ j → j < n → q i / 48 ≤ q j / 48 := by
  obtain ⟨h0, h1, h2, h3, h4, h5, h6, h7⟩ := h
  intro m
  induction m using Nat.strongRecOn with
  | _ m ih =>
    intro i j e a b c
    by_cases z : i = 0
    · have := h1 j (by omega) c
      have e0 := h0.2
      rw [z, e0]
      omega
    · have ti := h2 i (by omega) (by omega)
      have tj := h2 j (by omega) c
      have hp : Pi i ≤ Pi j := by
        by_cases y : i = j
        · rw [y]; exact Int.le_refl _
        · have := h3 i j (by omega) (by omega) c
          omega
      have := ih (Pi j).toNat (by omega) (Pi i) (Pi j) rfl ti.1.1 hp (by omega)
      have e1 := ti.2.2.2.1
      have e2 := tj.2.2.2.1
      have f1 : nch l q (Pi i) (Wy i) = (q (Pi i) / 48 + 1) * 48 + bes l (q (Pi i) % 48) (Wy i) := rfl
      have f2 : nch l q (Pi j) (Wy j) = (q (Pi j) / 48 + 1) * 48 + bes l (q (Pi j) % 48) (Wy j) := rfl
      have k1 := ti.2.2.1.1
      have k2 := tj.2.2.1.1
      have d1 := h1 i a (by omega)
      have d2 := h1 j (by omega) c
      have p1 := h1 (Pi i) ti.1.1 (by omega)
      have p2 := h1 (Pi j) tj.1.1 (by omega)
      have r1 := besC_r (w := Wy i) hR p1.2.2
      have r2 := besC_r (w := Wy j) hR p2.2.2
      have gc := hR.2.2.2.2.2.1
      omega
/-- what stands in the queue can be come to -/
theorem fi_rea (hR : RgC l) (hr : isR l ro) (h : FI l ro g gt q o Pi Wy n hd wy) : ∀ (m : Nat) (i : Int), i.toNat = m → 0 ≤ i → i < n → rea l ro (q i / 48).toNat (q i % 48) := by
  have gc := hR.2.2.2.2.2.1
  have hc := (rgc_r hR hr).1
  obtain ⟨h0, h1, h2, h3, h4, h5, h6, h7⟩ := h
  intro m
  induction m using Nat.strongRecOn with
  | _ m ih =>
    intro i e a b
    by_cases z : i = 0
    · have e0 := h0.2
      rw [z, e0, show rb l ro 0 / 48 = 0 by omega, show rb l ro 0 % 48 = rb l ro 0 by omega]
      exact (rfl : rb l ro 0 = rb l ro 0)
    · obtain ⟨t1, t2, t3, t4, t5, t6⟩ := h2 i (by omega) b
      have := ih (Pi i).toNat (by omega) (Pi i) rfl t1.1 (by omega)
      have p1 := h1 (Pi i) t1.1 (by omega)
      have hb := besC_r (w := Wy i) hR p1.2.2
      have f1 : nch l q (Pi i) (Wy i) = (q (Pi i) / 48 + 1) * 48 + bes l (q (Pi i) % 48) (Wy i) := rfl
      have k1 := t3.1
      rw [t4, show nch l q (Pi i) (Wy i) / 48 = q (Pi i) / 48 + 1 by omega, show nch l q (Pi i) (Wy i) % 48 = bes l (q (Pi i) % 48) (Wy i) by omega, show (q (Pi i) / 48 + 1).toNat = (q (Pi i) / 48).toNat + 1 by omega]
      obtain ⟨u, hu, eu⟩ := bes_sym hR p1.2.2 (w := Wy i) t2 rfl k1
      refine ⟨by omega, u, hu, by rw [eu]; exact p1.2.2.1, by rw [eu]; exact this, ?_⟩
      rw [eu, Int.toNat_of_nonneg (by omega)]
      exact t3.2
/-- what can be come to in time stands in the queue -/
theorem fi_all (hR : RgC l) (hr : isR l ro) (h : FI l ro g gt q o Pi Wy n hd wy) (hh : 0 ≤ hd) (T : Int) (hT : T ≤ l 7) (hp : ∀ j, 0 ≤ j → j < n → q j / 48 < T → j < hd) : ∀ (t : Nat) (c : Int), (t : Int) ≤ T → rea l ro t c → ∃ i, (0 ≤ i ∧ i < n) ∧ q i = t * 48 + c := by
  have gc := hR.2.2.2.2.2.1
  have hc := (rgc_r hR hr).1
  obtain ⟨h0, h1, h2, h3, h4, h5, h6, h7⟩ := h
  intro t
  induction t with
  | zero =>
    intro c a b
    exact ⟨0, by omega, by rw [h0.2, show c = rb l ro 0 from b]; omega⟩
  | succ t ih =>
    rintro c a ⟨hcc, w, hw, hb, k, hm⟩
    obtain ⟨j, hj, ej⟩ := ih _ (by omega) k
    have hbc := besC_r (w := w) hR hcc
    obtain ⟨u, hu, eu⟩ := bes_sym hR hcc (w := w) hw rfl hb
    have e1 : q j / 48 = t := by omega
    have e2 : q j % 48 = bes l c w := by omega
    have hjh := hp j hj.1 hj.2 (by omega)
    have := h7 j u hj.1 (.inl hjh) hj.2 hu.1 hu.2 ⟨by rw [e2, eu]; exact hcc.1, by rw [e2, eu, e1]; exact hm⟩
    obtain ⟨i, hi, ei, _⟩ := this
    have f1 : nch l q j u = (q j / 48 + 1) * 48 + bes l (q j % 48) u := rfl
    refine ⟨i, by omega, ?_⟩
    rw [ei, f1, e1, e2, eu]
    omega
end FIX
