/-! the reference: distances by a table (printed by program) -/
section RB2
variable {E : q_E} {h : q_H} {am : Nat} {M M2 : q_Im} {l F f : Int → Int} {a b k w v : Int}
theorem wk_app : ∀ (m n : Nat) (a c b : Int), wk l m a c → wk l n c b → wk l (m + n) a b
  | 0, n, a, c, b, h1, h2 => by rw [Nat.zero_add, show a = c from h1]; exact h2
  | m + 1, n, a, c, b, h1, h2 => by
    obtain ⟨d, e1, e2⟩ := h1
    rw [show m + 1 + n = (m + n) + 1 by omega]
    exact ⟨d, e1, wk_app m n d c b e2 h2⟩
theorem wk_fn : ∀ (n : Nat) (a b : Int), wk l n a b → ∃ x : Nat → Int, x 0 = a ∧ x n = b ∧ ∀ i, i < n → edge l (x i) (x (i + 1))
  | 0, a, b, h1 => ⟨fun _ => a, rfl, h1, fun i hi => by omega⟩
  | n + 1, a, b, h1 => by
    obtain ⟨c, e1, e2⟩ := h1
    obtain ⟨x, x0, x1, x2⟩ := wk_fn n c b e2
    refine ⟨fun i => if i = 0 then a else x (i - 1), if_pos rfl, ?_, fun i hi => ?_⟩
    · show (if n + 1 = 0 then a else x (n + 1 - 1)) = b
      rw [if_neg (by omega)]
      exact x1
    · show edge l (if i = 0 then a else x (i - 1)) (if i + 1 = 0 then a else x (i + 1 - 1))
      rw [if_neg (show ¬ i + 1 = 0 by omega), show i + 1 - 1 = i by omega]
      by_cases z : i = 0
      · rw [if_pos z, z, x0]; exact e1
      · rw [if_neg z]
        have := x2 (i - 1) (by omega)
        rw [show i - 1 + 1 = i by omega] at this
        exact this
theorem fn_wk {x : Nat → Int} : ∀ (n i : Nat), (∀ j, i ≤ j → j < i + n → edge l (x j) (x (j + 1))) → wk l n (x i) (x (i + n))
  | 0, i, _ => rfl
  | n + 1, i, hx => by
    refine ⟨x (i + 1), hx i (by omega) (by omega), ?_⟩
    have := fn_wk n (i + 1) (fun j a b => hx j (by omega) (by omega))
    rw [show i + 1 + n = i + (n + 1) by omega] at this
    exact this
theorem wk_short (hR : RgC l) (ha : isC l a) {n : Nat} (h1 : wk l n a b) (h2 : ∀ m, m < n → ¬ wk l m a b) : (n : Int) < cs l := by
  obtain ⟨x, x0, x1, x2⟩ := wk_fn n a b h1
  have hc : ∀ i, i ≤ n → isC l (x i) := by
    intro i
    induction i with
    | zero => intro _; rw [x0]; exact ha
    | succ i ih => intro hi; exact edge_c hR (ih (by omega)) (x2 i (by omega))
  have key : ∀ i j, i ≤ n → j ≤ n → i < j → x i ≠ x j := by
    intro i j hi hj hij e
    have w1 := fn_wk (l := l) (x := x) i 0 (fun t _ b => x2 t (by omega))
    have w2 := fn_wk (l := l) (x := x) (n - j) j (fun t _ b => x2 t (by omega))
    rw [Nat.zero_add, x0, e] at w1
    rw [show j + (n - j) = n by omega, x1] at w2
    exact h2 (i + (n - j)) (by omega) (wk_app _ _ _ _ _ w1 w2)
  have := pig (cs l).toNat (n + 1) (fun i => (x i).toNat) (fun i hi => by have := hc i (by omega); show (x i).toNat < (cs l).toNat; omega) (fun i j hi hj e => by
    have e : (x i).toNat = (x j).toNat := e
    have a1 := hc i (by omega)
    have a2 := hc j (by omega)
    rcases Nat.lt_trichotomy i j with z | z | z
    · exact absurd (show x i = x j by omega) (key i j (by omega) (by omega) z)
    · exact z
    · exact absurd (show x j = x i by omega) (key j i (by omega) (by omega) z))
  omega
/-- walks through cells below k -/
def wkI (l : Int → Int) (k : Int) : Nat → Int → Int → Prop
  | 0, a, b => a = b
  | 1, a, b => edge l a b
  | n + 2, a, b => ∃ c, edge l a c ∧ c < k ∧ wkI l k (n + 1) c b
theorem wkI_all (hR : RgC l) : ∀ (n : Nat) (a b : Int), isC l a → wk l n a b → wkI l (cs l) n a b
  | 0, _, _, _, h1 => h1
  | 1, a, b, _, h1 => by
    obtain ⟨c, e1, e2⟩ := h1
    rw [← (show c = b from e2)]
    exact e1
  | n + 2, a, b, ha, h1 => by
    obtain ⟨c, e1, e2⟩ := h1
    have hc := edge_c hR ha e1
    exact ⟨c, e1, hc.2, wkI_all hR (n + 1) c b hc e2⟩
theorem wkI_s : ∀ (n : Nat) (a b : Int), wkI l (k + 1) n a b → wkI l k n a b ∨ ∃ n1 n2, n1 + n2 ≤ n ∧ wkI l k n1 a k ∧ wkI l k n2 k b
  | 0, _, _, h1 => .inl h1
  | 1, _, _, h1 => .inl h1
  | n + 2, a, b, h1 => by
    obtain ⟨c, e1, e2, e3⟩ := h1
    rcases wkI_s (n + 1) c b e3 with y | ⟨n1, n2, y1, y2, y3⟩
    · by_cases z : c = k
      · subst z
        exact .inr ⟨1, n + 1, by omega, e1, y⟩
      · exact .inl ⟨c, e1, by omega, y⟩
    · by_cases z : c = k
      · subst z
        exact .inr ⟨1, n2, by omega, e1, y3⟩
      · cases n1 with
        | zero => exact absurd y2 z
        | succ n1 => exact .inr ⟨n1 + 2, n2, by omega, ⟨c, e1, by omega, y2⟩, y3⟩
theorem wkI_0 : ∀ (n : Nat) (a b : Int), wkI l 0 n a b → (n = 0 ∧ a = b) ∨ (n = 1 ∧ edge l a b)
  | 0, _, _, h1 => .inl ⟨rfl, h1⟩
  | 1, _, _, h1 => .inr ⟨rfl, h1⟩
  | n + 2, a, b, h1 => by
    obtain ⟨c, ⟨u, e0, e1, e2, e3⟩, e4, _⟩ := h1
    omega
def FwI (l : Int → Int) (F : Int → Int) (k a b : Int) : Prop := (∀ a b, isC l a → isC l b → (0 ≤ F (48 * a + b) ∧ F (48 * a + b) ≤ 1000) ∧ (F (48 * a + b) < 1000 → wk l (F (48 * a + b)).toNat a b)) ∧ (∀ a' b', isC l a' → isC l b' → ∀ n, wkI l k n a' b' → F (48 * a' + b') ≤ n) ∧ ∀ a' b', isC l a' → isC l b' → (a' < a ∨ (a' = a ∧ b' < b)) → ∀ n, wkI l (k + 1) n a' b' → F (48 * a' + b') ≤ n
theorem fw_step (gc : cs l ≤ 48) (h : FwI l F k a b) (ha : isC l a) (hb : isC l b) (hk : isC l k) : FwI l (u1 F (48 * a + b) (min (F (48 * a + b)) (F (48 * a + k) + F (48 * k + b)))) k a (b + 1) := by
  obtain ⟨h1, h2, h3⟩ := h
  have hle : ∀ a' b', isC l a' → isC l b' → u1 F (48 * a + b) (min (F (48 * a + b)) (F (48 * a + k) + F (48 * k + b))) (48 * a' + b') ≤ F (48 * a' + b') := by
    intro a' b' ha' hb'
    by_cases z : 48 * a' + b' = 48 * a + b
    · rw [z, u1_eq]; omega
    · rw [u1_ne z]; exact Int.le_refl _
  have k1 := h1 a k ha hk
  have k2 := h1 k b hk hb
  have k3 := h1 a b ha hb
  refine ⟨fun a' b' ha' hb' => ?_, fun a' b' ha' hb' n hn => Int.le_trans (hle a' b' ha' hb') (h2 a' b' ha' hb' n hn), fun a' b' ha' hb' hab n hn => ?_⟩
  · by_cases z : a' = a ∧ b' = b
    · rw [z.1, z.2, u1_eq]
      refine ⟨by omega, fun y => ?_⟩
      by_cases x : F (48 * a + b) ≤ F (48 * a + k) + F (48 * k + b)
      · rw [Int.min_eq_left x]; exact k3.2 (by omega)
      · rw [Int.min_eq_right (by omega), Int.toNat_add k1.1.1 k2.1.1]
        exact wk_app _ _ _ _ _ (k1.2 (by omega)) (k2.2 (by omega))
    · rw [u1_ne (by omega)]
      exact h1 a' b' ha' hb'
  · by_cases z : a' = a ∧ b' = b
    · rw [z.1, z.2, u1_eq]
      rw [z.1, z.2] at hn
      rcases wkI_s n a b hn with y | ⟨n1, n2, y1, y2, y3⟩
      · have := h2 a b ha hb n y
        omega
      · have e1 := h2 a k ha hk n1 y2
        have e2 := h2 k b hk hb n2 y3
        omega
    · exact Int.le_trans (hle a' b' ha' hb') (h3 a' b' ha' hb' (by omega) n hn)
theorem fw_row (h : FwI l F k a (cs l)) : FwI l F k (a + 1) 0 := by
  obtain ⟨h1, h2, h3⟩ := h
  exact ⟨h1, h2, fun a' b' ha' hb' hab n hn => h3 a' b' ha' hb' (by have := hb'.2; have := hb'.1; omega) n hn⟩
theorem fw_rnd (h : FwI l F k (cs l) 0) : FwI l F (k + 1) 0 0 := by
  obtain ⟨h1, h2, h3⟩ := h
  exact ⟨h1, fun a' b' ha' hb' n hn => h3 a' b' ha' hb' (.inl ha'.2) n hn, fun a' b' ha' hb' hab => by have := ha'.1; have := hb'.1; omega⟩
theorem fw_end (hR : RgC l) (h : FwI l F (cs l) 0 0) (ha : isC l a) (hb : isC l b) : (F (48 * a + b) < 1000 → F (48 * a + b) = dst l a b) ∧ (¬ F (48 * a + b) < 1000 → dst l a b = -1) := by
  obtain ⟨h1, h2, h3⟩ := h
  have gc := hR.2.2.2.2.2.1
  have k1 := h1 a b ha hb
  have k2 : ∀ n : Nat, wk l n a b → F (48 * a + b) ≤ n := fun n hn => h2 a b ha hb n (wkI_all hR n a b ha hn)
  constructor
  · intro y
    have w1 := k1.2 y
    have w2 := wk_short hR ha w1 (fun m hm hw => by have := k2 m hw; omega)
    refine (fnd_y (P := fun n => wk l n.toNat a b) (n := 48) (k := 0) (by omega) k1.1.1 (by omega) w1 (fun j a0 b0 hw => ?_)).symm
    have := k2 j.toNat hw
    omega
  · intro y
    refine fnd_no fun i a0 b0 hw => ?_
    have := k2 i.toNat hw
    omega
/-- a row of the table at first: w directions are looked at -/
def T0R (l : Int → Int) (w a b v : Int) : Prop := (a = b → v = 0) ∧ (a ≠ b → ((∃ u, (0 ≤ u ∧ u < w) ∧ bes l a u = b ∧ 0 ≤ b ∧ ent l b) → v = 1) ∧ ((¬ ∃ u, (0 ≤ u ∧ u < w) ∧ bes l a u = b ∧ 0 ≤ b ∧ ent l b) → v = 1000))
def T0I (l : Int → Int) (F : Int → Int) (a w : Int) : Prop := (∀ a' b', isC l a' → isC l b' → a' < a → T0R l 4 a' b' (F (48 * a' + b'))) ∧ ∀ b', isC l b' → T0R l w a b' (F (48 * a + b'))
theorem t0_0 : T0R l 0 a b (if a = b then 0 else 1000) := by
  refine ⟨fun e => if_pos e, fun e => ⟨?_, fun _ => if_neg e⟩⟩
  rintro ⟨u, h1, _⟩
  omega
theorem t0_w (h : T0I l F a w) (hw : ¬ (0 ≤ bes l a w ∧ ent l (bes l a w))) : T0I l F a (w + 1) := by
  refine ⟨h.1, fun b' hb' => ?_⟩
  obtain ⟨h1, h2⟩ := h.2 b' hb'
  refine ⟨h1, fun e => ⟨?_, fun hn => (h2 e).2 ?_⟩⟩
  · rintro ⟨u, h3, h4, h5⟩
    refine (h2 e).1 ⟨u, ?_, h4, h5⟩
    by_cases z : u = w
    · rw [z] at h4
      exact absurd ⟨by rw [h4]; exact h5.1, by rw [h4]; exact h5.2⟩ hw
    · omega
  · rintro ⟨u, h3, h4⟩
    exact hn ⟨u, by omega, h4⟩
theorem t0_s (gc : cs l ≤ 48) (hR : RgC l) (h : T0I l F a w) (ha : isC l a) (h0 : 0 ≤ w ∧ w < 4) (hw : 0 ≤ bes l a w ∧ ent l (bes l a w)) (hb : bes l a w < cs l) : T0I l (u1 F (48 * a + bes l a w) 1) a (w + 1) := by
  refine ⟨fun a' b' ha' hb' hlt => ?_, fun b' hb' => ?_⟩
  · rw [u1_ne (by omega)]
    exact h.1 a' b' ha' hb' hlt
  · obtain ⟨h1, h2⟩ := h.2 b' hb'
    by_cases z : b' = bes l a w
    · rw [z, u1_eq]
      refine ⟨fun e => ?_, fun e => ⟨fun _ => rfl, fun hn => absurd ⟨w, by omega, rfl, hw⟩ hn⟩⟩
      rcases bes_ne (w := w) (c := a) hR h0 with y | y
      · exact absurd e.symm y
      · omega
    · rw [u1_ne (by omega)]
      refine ⟨h1, fun e => ⟨?_, fun hn => (h2 e).2 ?_⟩⟩
      · rintro ⟨u, h3, h4, h5⟩
        refine (h2 e).1 ⟨u, ?_, h4, h5⟩
        by_cases y : u = w
        · rw [y] at h4; exact absurd h4.symm z
        · omega
      · rintro ⟨u, h3, h4⟩
        exact hn ⟨u, by omega, h4⟩
theorem fw_0 (hR : RgC l) (h : ∀ a' b', isC l a' → isC l b' → T0R l 4 a' b' (F (48 * a' + b'))) : FwI l F 0 0 0 := by
  refine ⟨fun a b ha hb => ?_, fun a b ha hb n hn => ?_, fun a b ha hb hab => by have := ha.1; have := hb.1; omega⟩
  · obtain ⟨h1, h2⟩ := h a b ha hb
    by_cases z : a = b
    · rw [h1 z]
      exact ⟨by omega, fun _ => z⟩
    · by_cases y : ∃ u, (0 ≤ u ∧ u < 4) ∧ bes l a u = b ∧ 0 ≤ b ∧ ent l b
      · rw [(h2 z).1 y]
        exact ⟨by omega, fun _ => ⟨b, y, rfl⟩⟩
      · rw [(h2 z).2 y]
        exact ⟨by omega, fun e => by omega⟩
  · obtain ⟨h1, h2⟩ := h a b ha hb
    rcases wkI_0 n a b hn with ⟨y1, y2⟩ | ⟨y1, y2⟩
    · rw [h1 y2]; omega
    · by_cases z : a = b
      · rw [h1 z]; omega
      · rw [(h2 z).1 y2]; omega
noncomputable def dagM (l : Int → Int) (a b : Int) : Int × Int := if ¬ (isC l a ∧ isC l b) then (1, 0) else if dst l a b = -1 then (2, 0) else (0, dst l a b)
theorem dst_r : -1 ≤ dst l a b ∧ dst l a b < 48 := dsB_r
end RB2
