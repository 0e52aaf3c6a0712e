/-! both rows after a change, eighth: pass, layout -/
section PM_
variable {l m m' W x f g l0 q : Int → Int} {c w r o t a b i y z ro fr to T ct k d e v N R C R' C' : Int} {n : Nat}
theorem fs_all (h0 : 0 ≤ T) (h1 : T ≤ 98000) {l0 : Int → Int} : ∀ (n : Nat) (k : Int) (m : Int → Int), 0 ≤ k → k + n = m 3 → Jk T k m → Jk T (m 3) (fsR l0 n k m) ∧ (fsR l0 n k m) 3 = m 3
  | 0, k, m, _, e, h => by
    have e : k = m 3 := by omega
    rw [e] at h
    exact ⟨h, rfl⟩
  | n + 1, k, m, k0, e, h => by
    obtain ⟨a, b⟩ := fs_jk (l0 := l0) h ⟨k0, by omega⟩ h0 h1
    have e3 := b 3 (by omega)
    have := fs_all h0 h1 (l0 := l0) n (k + 1) (fs1 l0 m k) (by omega) (by omega) a
    rw [e3] at this
    exact this
theorem tmL_ok (hR : Rg m) (hT : 0 ≤ m 2) (hB : TB0 T m) (h0 : 0 ≤ T) (h1 : T ≤ 98000) : Rg (tmL m) ∧ TB0 (T + 1) (tmL m) := by
  have hJ := jk_now hR hT hB h0 h1
  have g3 := hR.2.2.2.1
  have e3 : u1 m 2 (m 2 + 1) 3 = m 3 := u1_ne (by omega)
  have hn : (0 : Int) + ((m 3).toNat : Nat) = u1 m 2 (m 2 + 1) 3 := by rw [e3]; omega
  have ef := (mt_fs (l0 := m) h0 h1 (m 3).toNat 0 _ 0 (Int.le_refl 0) hn hJ).1
  obtain ⟨a, b⟩ := fs_all h0 h1 (l0 := m) (m 3).toNat 0 _ (Int.le_refl 0) hn hJ
  have e : tmL m = fsR m (m 3).toNat 0 (u1 m 2 (m 2 + 1)) := ef
  rw [e]
  obtain ⟨a1, a2, a3, a4, a5⟩ := a
  exact ⟨a1, a3, fun r q1 q2 => (a4 r q1 q2).1, a5⟩
theorem st_pasn : ∀ (n : Nat) (T : Int) (l m : Int → Int) (d : Int), StR T l m → 0 ≤ T → T + n ≤ 98000 → StR (T + n) (psL n l) (pmL n m) ∧ psV n l d = pmV n m d
  | 0, T, l, m, d, h, _, _ => ⟨by rw [show T + ((0 : Nat) : Int) = T by omega]; exact h, rfl⟩
  | n + 1, T, l, m, d, h, h0, h1 => by
    obtain ⟨k1, k2⟩ := tmL_ok h.2.1.1 h.2.1.2.1 h.2.2.2 h0 (by omega)
    obtain ⟨s1, s2⟩ := st_tick h h0 (by omega) k1 k2
    obtain ⟨i1, i2⟩ := st_pasn n (T + 1) _ _ (d + tmV m) s1 (by omega) (by omega)
    show StR (T + ((n + 1 : Nat) : Int)) (psL n (tkr (l 3).toNat 0 (u1 l 2 (l 2 + 1)))) (pmL n (tmL m)) ∧ psV n (tkr (l 3).toNat 0 (u1 l 2 (l 2 + 1))) (d + tkd (l 3).toNat 0 (u1 l 2 (l 2 + 1)) 0) = pmV n (tmL m) (d + tmV m)
    rw [s2, show T + ((n + 1 : Nat) : Int) = T + 1 + (n : Int) by omega]
    exact ⟨i1, i2⟩
theorem st_mono {T' : Int} (h : StR T l m) (hT : T ≤ T') (h0 : 0 ≤ T) : StR T' l m := by
  obtain ⟨hS, hI, hC, hB⟩ := h
  refine ⟨hS, hI, hC, by have := hB.1; omega, fun r a b => ?_, fun o a b => ?_⟩
  · have := hB.2.1 r a b; omega
  · have := hB.2.2 o a b; omega
theorem kd_47 : kd 47 = -1 := by decide
/-- the class's text and the reference's: the same end -/
theorem wp_fp (hn : 0 ≤ N) (hc : ∀ i, 0 ≤ i → i < N → x i = q i) : ∀ (n : Nat) (i y R C C' : Int), 0 ≤ i → i + n = N → 0 ≤ y → (0 ≤ R ∧ R ≤ 5) → (R = 0 → y ≤ 8) → (1 ≤ R → (2 ≤ C ∧ C ≤ 8) ∧ y ≤ C ∧ C' = C) →
    (fpl x N n i R C y).1 = (wpl q N n i y (R + 1) C').1 ∧ ((fpl x N n i R C y).1 = -1 → (fpl x N n i R C y).2.1 = (wpl q N n i y (R + 1) C').2.1 ∧ (fpl x N n i R C y).2.2 = (wpl q N n i y (R + 1) C').2.2 ∧ (1 ≤ (fpl x N n i R C y).2.1 ∧ (fpl x N n i R C y).2.1 ≤ 6) ∧ (2 ≤ (fpl x N n i R C y).2.2 ∧ (fpl x N n i R C y).2.2 ≤ 8))
  | 0, i, y, R, C, C', h0, h1, hy, hR, ha, hb => by
    show (if cer R C y then (-1, R + 1, y) else (N, R, C)).1 = (if y < 2 ∨ y < (if R + 1 = 1 then y else C') then N else -1) ∧ ((if cer R C y then ((-1 : Int), R + 1, y) else (N, R, C)).1 = -1 → (if cer R C y then (-1, R + 1, y) else (N, R, C)).2.1 = R + 1 ∧ (if cer R C y then (-1, R + 1, y) else (N, R, C)).2.2 = (if R + 1 = 1 then y else C') ∧ (1 ≤ (if cer R C y then (-1, R + 1, y) else (N, R, C)).2.1 ∧ (if cer R C y then (-1, R + 1, y) else (N, R, C)).2.1 ≤ 6) ∧ (2 ≤ (if cer R C y then (-1, R + 1, y) else (N, R, C)).2.2 ∧ (if cer R C y then (-1, R + 1, y) else (N, R, C)).2.2 ≤ 8))
    by_cases z : R = 0
    · have ha := ha z
      by_cases u : cer R C y
      · have u2 : 2 ≤ y := by rcases u with u | u <;> omega
        rw [if_pos u, if_pos (show R + 1 = 1 by omega), if_neg (by omega)]
        exact ⟨rfl, fun _ => ⟨rfl, rfl, by show 1 ≤ R + 1 ∧ R + 1 ≤ 6; omega, by show 2 ≤ y ∧ y ≤ 8; omega⟩⟩
      · have u2 : y < 2 := by
          rcases (by omega : y < 2 ∨ 2 ≤ y) with p | p
          · exact p
          · exact absurd (.inl ⟨z, p⟩) u
        rw [if_neg u, if_pos (.inl u2)]
        exact ⟨rfl, fun e => absurd (show N = -1 from e) (by omega)⟩
    · obtain ⟨b1, b2, b3⟩ := hb (by omega)
      by_cases u : cer R C y
      · have u2 : y = C := by rcases u with u | u <;> omega
        rw [if_pos u, if_neg (show ¬ R + 1 = 1 by omega), if_neg (by omega)]
        exact ⟨rfl, fun _ => ⟨rfl, by show y = C'; omega, by show 1 ≤ R + 1 ∧ R + 1 ≤ 6; omega, by show 2 ≤ y ∧ y ≤ 8; omega⟩⟩
      · have u2 : y < C := by
          rcases (by omega : y < C ∨ y = C) with p | p
          · exact p
          · exact absurd (.inr ⟨z, p⟩) u
        rw [if_neg u, if_neg (show ¬ R + 1 = 1 by omega), if_pos (by omega)]
        exact ⟨rfl, fun e => absurd (show N = -1 from e) (by omega)⟩
  | n + 1, i, y, R, C, C', h0, h1, hy, hR, ha, hb => by
    have hcc := hc i h0 (by omega)
    have e1 : fpl x N (n + 1) i R C y = if x i = 47 ∧ cer R C y ∧ R + 1 < 6 then fpl x N n (i + 1) (R + 1) y 0 else if ¬ kd (x i) = -1 ∧ cgr R C y then fpl x N n (i + 1) R C (y + 1) else (i, R, C) := rfl
    have e2 : wpl q N (n + 1) i y (R + 1) C' = if 0 ≤ kd (q i) then (if y = (if R + 1 = 1 then 8 else C') then (i, R + 1, C') else wpl q N n (i + 1) (y + 1) (R + 1) C') else if (q i = 47 ∧ R + 1 < 6) ∧ ((R + 1 = 1 ∧ 2 ≤ y) ∨ (¬ R + 1 = 1 ∧ y = C')) then wpl q N n (i + 1) 0 (R + 1 + 1) (if R + 1 = 1 then y else C') else (i, R + 1, C') := rfl
    rw [e1, e2, ← hcc]
    have hk := @kd_r (x i)
    by_cases u : 0 ≤ kd (x i)
    · have n47 : ¬ x i = 47 := fun e => by rw [e, kd_47] at u; omega
      rw [if_neg (fun z => n47 z.1), if_pos u]
      by_cases p : cgr R C y
      · have p2 : ¬ y = (if R + 1 = 1 then 8 else C') := by
          rcases p with p | p
          · rw [if_pos (by omega)]; omega
          · rw [if_neg (by omega)]; have := hb (by omega); omega
        rw [if_pos ⟨by omega, p⟩, if_neg p2]
        refine wp_fp hn hc n (i + 1) (y + 1) R C C' (by omega) (by omega) (by omega) hR (fun z => ?_) (fun z => ?_)
        · rcases p with p | p <;> omega
        · have := hb z
          rcases p with p | p <;> omega
      · have p2 : y = (if R + 1 = 1 then 8 else C') := by
          by_cases z : R = 0
          · rw [if_pos (by omega)]
            have := ha z
            rcases (by omega : y = 8 ∨ y < 8) with v | v
            · exact v
            · exact absurd (.inl ⟨z, v⟩) p
          · rw [if_neg (by omega)]
            have := hb (by omega)
            rcases (by omega : y = C ∨ y < C) with v | v
            · omega
            · exact absurd (.inr ⟨z, v⟩) p
        rw [if_neg (fun z => p z.2), if_pos p2]
        exact ⟨rfl, fun e => absurd (show i = -1 from e) (by omega)⟩
    · have k1 : kd (x i) = -1 := by omega
      rw [if_neg u]
      by_cases p : x i = 47 ∧ cer R C y ∧ R + 1 < 6
      · have p2 : (x i = 47 ∧ R + 1 < 6) ∧ ((R + 1 = 1 ∧ 2 ≤ y) ∨ (¬ R + 1 = 1 ∧ y = C')) := by
          refine ⟨⟨p.1, p.2.2⟩, ?_⟩
          rcases p.2.1 with v | v
          · exact .inl (by omega)
          · have := hb (by omega); exact .inr (by omega)
        rw [if_pos p, if_pos p2]
        have ec : (if R + 1 = 1 then y else C') = y := by
          by_cases z : R + 1 = 1
          · rw [if_pos z]
          · rw [if_neg z]; rcases p2.2 with v | v <;> omega
        rw [ec]
        refine wp_fp hn hc n (i + 1) 0 (R + 1) y y (by omega) (by omega) (by omega) (by omega) (fun z => by omega) (fun z => ⟨?_, hy, rfl⟩)
        by_cases z : R = 0
        · have := ha z; rcases p2.2 with v | v <;> omega
        · have := hb (by omega); rcases p2.2 with v | v <;> omega
      · have p2 : ¬ ((x i = 47 ∧ R + 1 < 6) ∧ ((R + 1 = 1 ∧ 2 ≤ y) ∨ (¬ R + 1 = 1 ∧ y = C'))) := fun v => p ⟨v.1.1, by
          rcases v.2 with s | s
          · exact .inl (by omega)
          · have := hb (by omega); exact .inr (by omega), v.1.2⟩
        rw [if_neg p, if_neg (fun z => z.1 k1), if_neg p2]
        exact ⟨rfl, fun e => absurd (show i = -1 from e) (by omega)⟩
/-- how many cells a text without a fault has -/
theorem ryN_ge : ∀ (n : Nat) (k c : Int), c ≤ ryN q n k c
  | 0, _, c => Int.le_refl c
  | n + 1, k, c => by
    show c ≤ if q k = 47 then ryN q n (k + 1) c else ryN q n (k + 1) (c + 1)
    split
    · exact ryN_ge n (k + 1) c
    · have := ryN_ge n (k + 1) (c + 1); omega
theorem ryN_rc (hc : ∀ i, 0 ≤ i → i < N → x i = q i) : ∀ (n : Nat) (i y R C c : Int), 0 ≤ i → i + n = N → c = R * C + y → (fpl x N n i R C y).1 = -1 → 0 ≤ N → ryN q n i c = (fpl x N n i R C y).2.1 * (fpl x N n i R C y).2.2
  | 0, i, y, R, C, c, h0, h1, he, hf, hn => by
    have e : fpl x N 0 i R C y = if cer R C y then (-1, R + 1, y) else (N, R, C) := rfl
    rw [e] at hf ⊢
    by_cases u : cer R C y
    · rw [if_pos u]
      show c = (R + 1) * y
      rw [Int.add_mul, Int.one_mul, he]
      rcases u with u | u
      · rw [u.1, Int.zero_mul, Int.zero_mul]
      · rw [u.2]
    · rw [if_neg u] at hf
      exact absurd (show N = -1 from hf) (by omega)
  | n + 1, i, y, R, C, c, h0, h1, he, hf, hn => by
    have hcc := hc i h0 (by omega)
    have e1 : fpl x N (n + 1) i R C y = if x i = 47 ∧ cer R C y ∧ R + 1 < 6 then fpl x N n (i + 1) (R + 1) y 0 else if ¬ kd (x i) = -1 ∧ cgr R C y then fpl x N n (i + 1) R C (y + 1) else (i, R, C) := rfl
    have e2 : ryN q (n + 1) i c = if q i = 47 then ryN q n (i + 1) c else ryN q n (i + 1) (c + 1) := rfl
    rw [e1] at hf ⊢
    rw [e2, ← hcc]
    by_cases p : x i = 47 ∧ cer R C y ∧ R + 1 < 6
    · rw [if_pos p] at hf ⊢
      rw [if_pos p.1]
      refine ryN_rc hc n (i + 1) 0 (R + 1) y c (by omega) (by omega) ?_ hf hn
      rw [Int.add_mul, Int.one_mul, he, Int.add_zero]
      rcases p.2.1 with u | u
      · rw [u.1, Int.zero_mul, Int.zero_mul]
      · rw [u.2]
    · rw [if_neg p] at hf ⊢
      by_cases u : ¬ kd (x i) = -1 ∧ cgr R C y
      · have n47 : ¬ x i = 47 := fun e => by rw [e, kd_47] at u; exact u.1 rfl
        rw [if_pos u] at hf ⊢
        rw [if_neg n47]
        exact ryN_rc hc n (i + 1) (y + 1) R C (c + 1) (by omega) (by omega) (by omega) hf hn
      · rw [if_neg u] at hf
        exact absurd (show i = -1 from hf) (by omega)
/-- cell by cell -/
theorem ry_rb (hc : ∀ i, 0 ≤ i → i < N → x i = q i) (hn : 0 ≤ N) : ∀ (n : Nat) (i y R C c : Int) (l m : Int → Int), 0 ≤ i → i + n = N → 0 ≤ c → (fpl x N n i R C y).1 = -1 → ryN q n i c ≤ 48 → (∀ k, 0 ≤ k → k < c → l (8 + k) = m (8 + k) ∧ l (56 + k) = 0 ∧ (0 ≤ m (8 + k) ∧ m (8 + k) ≤ 3)) →
    (∀ k, 0 ≤ k → k < ryN q n i c → rbl x n i c l (8 + k) = ryL q n i c m (8 + k) ∧ rbl x n i c l (56 + k) = 0 ∧ (0 ≤ ryL q n i c m (8 + k) ∧ ryL q n i c m (8 + k) ≤ 3)) ∧ (∀ j, j < 8 ∨ 56 ≤ j → ryL q n i c m j = m j) ∧ (∀ j, j < 8 ∨ 104 ≤ j → rbl x n i c l j = l j) ∧ (∀ j, 0 ≤ j → j < 48 → rbl x n i c l (56 + j) = l (56 + j) ∨ rbl x n i c l (56 + j) = 0) ∧ ∀ j, (-1000000 ≤ m j ∧ m j ≤ 1000000) → (-1000000 ≤ ryL q n i c m j ∧ ryL q n i c m j ≤ 1000000)
  | 0, i, y, R, C, c, l, m, _, _, _, _, _, h => ⟨h, fun _ _ => rfl, fun _ _ => rfl, fun _ _ _ => .inl rfl, fun _ h => h⟩
  | n + 1, i, y, R, C, c, l, m, h0, h1, hcc, hf, h48, h => by
    have hx := hc i h0 (by omega)
    have e1 : fpl x N (n + 1) i R C y = if x i = 47 ∧ cer R C y ∧ R + 1 < 6 then fpl x N n (i + 1) (R + 1) y 0 else if ¬ kd (x i) = -1 ∧ cgr R C y then fpl x N n (i + 1) R C (y + 1) else (i, R, C) := rfl
    have e2 : ryN q (n + 1) i c = if q i = 47 then ryN q n (i + 1) c else ryN q n (i + 1) (c + 1) := rfl
    have e3 : ryL q (n + 1) i c m = if q i = 47 then ryL q n (i + 1) c m else ryL q n (i + 1) (c + 1) (u1 m (8 + c) (kd (q i))) := rfl
    have e4 : rbl x (n + 1) i c l = if ¬ kd (x i) = -1 ∧ c < 48 then rbl x n (i + 1) (c + 1) (u1 (u1 l (8 + c) (kd (x i))) (56 + c) 0) else rbl x n (i + 1) c l := rfl
    rw [e1] at hf
    rw [e2, ← hx] at h48
    rw [e2, e3, e4, ← hx]
    by_cases p : x i = 47 ∧ cer R C y ∧ R + 1 < 6
    · rw [if_pos p] at hf
      rw [if_pos p.1] at h48
      have k47 : kd (x i) = -1 := by rw [p.1]; exact kd_47
      rw [if_pos p.1, if_pos p.1, if_neg (fun z => z.1 k47)]
      exact ry_rb hc hn n (i + 1) 0 (R + 1) y c l m (by omega) (by omega) hcc hf h48 h
    · rw [if_neg p] at hf
      by_cases u : ¬ kd (x i) = -1 ∧ cgr R C y
      · have n47 : ¬ x i = 47 := fun e => by rw [e, kd_47] at u; exact u.1 rfl
        have hk := @kd_r (x i)
        rw [if_pos u] at hf
        rw [if_neg n47] at h48
        have hge := ryN_ge (q := q) n (i + 1) (c + 1)
        rw [if_neg n47, if_neg n47, if_pos ⟨u.1, by omega⟩]
        obtain ⟨i1, i2, i3, i4, i5⟩ := ry_rb hc hn n (i + 1) (y + 1) R C (c + 1) (u1 (u1 l (8 + c) (kd (x i))) (56 + c) 0) (u1 m (8 + c) (kd (x i))) (by omega) (by omega) (by omega) hf h48 (fun k a b => by
          by_cases z : k = c
          · rw [z, u1_ne (show (8 : Int) + c ≠ 56 + c by omega), u1_eq, u1_eq, u1_eq]
            exact ⟨rfl, rfl, by omega⟩
          · rw [u1_ne (show (8 : Int) + k ≠ 56 + c by omega), u1_ne (show (8 : Int) + k ≠ 8 + c by omega), u1_ne (show (8 : Int) + k ≠ 8 + c by omega), u1_ne (show (56 : Int) + k ≠ 56 + c by omega), u1_ne (show (56 : Int) + k ≠ 8 + c by omega)]
            exact h k a (by omega))
        refine ⟨i1, fun j a => (i2 j a).trans (u1_ne (by omega)), fun j a => (i3 j a).trans ((u1_ne (by omega)).trans (u1_ne (by omega))), fun j a b => ?_, fun j a => i5 j ?_⟩
        · rcases i4 j a b with z | z
          · by_cases e : j = c
            · rw [e, u1_eq] at z
              rw [e]; exact .inr z
            · rw [u1_ne (by omega), u1_ne (by omega)] at z
              exact .inl z
          · exact .inr z
        · by_cases e : j = 8 + c
          · rw [e, u1_eq]; omega
          · rw [u1_ne e]; exact a
      · rw [if_neg u] at hf
        exact absurd (show i = -1 from hf) (by omega)
theorem rc_b {R C : Int} (h1 : 1 ≤ R ∧ R ≤ 6) (h2 : 2 ≤ C ∧ C ≤ 8) : 2 ≤ R * C ∧ R * C ≤ 48 := by
  have a1 := Int.mul_le_mul_of_nonneg_right h1.1 (show 0 ≤ C by omega)
  have a2 := Int.mul_le_mul_of_nonneg_right h1.2 (show 0 ≤ C by omega)
  omega
theorem st_lay (h : StR T l m) (hN : 0 ≤ N ∧ N ≤ 60) (hc : ∀ i, 0 ≤ i → i < N → x i = q i) : (fpl x N N.toNat 0 0 0 0).1 = (wpW q N).1 ∧ ((fpl x N N.toNat 0 0 0 0).1 = -1 → StR T (lay x N (fpl x N N.toNat 0 0 0 0).2.1 (fpl x N N.toNat 0 0 0 0).2.2 l) (rLay m q N (wpW q N).2.1 (wpW q N).2.2) ∧ (fpl x N N.toNat 0 0 0 0).2.1 * (fpl x N N.toNat 0 0 0 0).2.2 = ryN q N.toNat 0 0) := by
  obtain ⟨hS, hI, hC, hB⟩ := h
  obtain ⟨hR, hT, hH, hE, hNd⟩ := id hI
  have hcc := rgc_of hR hT
  obtain ⟨g0, g1, g2, g3, g4, gc, g5, g6, g7, gk, gl, gr, go⟩ := id hcc
  obtain ⟨w1, w2⟩ := wp_fp (x := x) (q := q) hN.1 hc N.toNat 0 0 0 0 0 (by omega) (by omega) (by omega) (by omega) (fun _ => by omega) (fun z => by omega)
  refine ⟨w1, fun hf => ?_⟩
  have ew : wpW q N = wpl q N N.toNat 0 0 (0 + 1) 0 := rfl
  rw [← ew] at w1 w2
  obtain ⟨v1, v2, v3, v4⟩ := w2 hf
  have hrc := ryN_rc hc N.toNat 0 0 0 0 0 (by omega) (by omega) (by omega) hf hN.1
  refine ⟨?_, hrc.symm⟩
  rw [← v1, ← v2]
  generalize hRf : (fpl x N N.toNat 0 0 0 0).2.1 = R at *
  generalize hCf : (fpl x N N.toNat 0 0 0 0).2.2 = C at *
  have hb := rc_b v3 v4
  have z_ (i : Int) (a : 0 ≤ i) (b : i < 400) (c : ¬ (5 ≤ i ∧ i ≤ 7)) : zl m 400 i = 0 := if_pos ⟨a, b, c⟩
  have z5 (i : Int) (c : 5 ≤ i ∧ i ≤ 7) : zl m 400 i = m i := if_neg (fun z => z.2.2 c)
  have hT0 : 0 ≤ T := by have := hB.1; omega
  obtain ⟨i1, i2, i3, i4, i5⟩ := ry_rb hc hN.1 N.toNat 0 0 0 0 0 (u1 (u1 (u1 (u1 (u1 l 0 R) 1 C) 2 0) 3 0) 4 0) (u1 (u1 (zl m 400) 0 R) 1 C) (by omega) (by omega) (by omega) hf (by rw [hrc]; omega) (fun k a b => by omega)
  rw [hrc] at i1
  have el : lay x N R C l = rbl x N.toNat 0 0 (u1 (u1 (u1 (u1 (u1 l 0 R) 1 C) 2 0) 3 0) 4 0) := rfl
  have em : rLay m q N R C = ryL q N.toNat 0 0 (u1 (u1 (zl m 400) 0 R) 1 C) := rfl
  rw [← el] at i1 i3 i4
  rw [← em] at i1 i2 i5
  generalize lay x N R C l = L at *
  generalize rLay m q N R C = M' at *
  have m0 : M' 0 = R := by rw [i2 0 (by omega), u1_ne (by omega), u1_eq]
  have m1 : M' 1 = C := by rw [i2 1 (by omega), u1_eq]
  have mz (j : Int) (a : 0 ≤ j) (b : j < 400) (c : ¬ (5 ≤ j ∧ j ≤ 7)) (d : ¬ (8 ≤ j ∧ j < 56)) (e : 2 ≤ j) : M' j = 0 := by
    rw [i2 j (by omega), u1_ne (by omega), u1_ne (by omega)]
    exact z_ j a b c
  have m5 (j : Int) (c : 5 ≤ j ∧ j ≤ 7) : M' j = m j := by
    rw [i2 j (by omega), u1_ne (by omega), u1_ne (by omega)]
    exact z5 j c
  have m2 := mz 2 (by omega) (by omega) (by omega) (by omega) (by omega)
  have m3 := mz 3 (by omega) (by omega) (by omega) (by omega) (by omega)
  have m4 := mz 4 (by omega) (by omega) (by omega) (by omega) (by omega)
  have mcs : cs M' = R * C := by unfold cs; rw [m0, m1]
  have nR (r : Int) : ¬ isR M' r := by unfold isR; rw [m3]; omega
  have nO (o : Int) : ¬ isO M' o := by unfold isO; rw [m4]; omega
  have RC : RgC M' := by
    unfold RgC
    rw [mcs, m0, m1, m2, m3, m4, m5 5 (by omega), m5 6 (by omega), m5 7 (by omega)]
    exact ⟨v3, v4, by omega, by omega, by omega, hb, g5, g6, g7, fun k a b => (i1 k a b).2.2, fun k a b => by rw [mz (56 + k) (by omega) (by omega) (by omega) (by omega) (by omega)]; omega, fun r a b => by omega, fun o a b => by omega⟩
  have RR : Rg M' := by
    refine rg_of (fun j => ?_) RC fun o a b => by rw [m4] at b; omega
    refine i5 j ?_
    by_cases z1 : j = 1
    · rw [z1, u1_eq]; omega
    · rw [u1_ne z1]
      by_cases z0 : j = 0
      · rw [z0, u1_eq]; omega
      · rw [u1_ne z0]
        have := hR.1 j
        unfold zl
        split <;> omega
  refine ⟨⟨fun i a b => ?_, fun c hc_ => ?_, fun r hr => absurd hr (nR r), fun o ho => absurd ho (nO o)⟩, ⟨RR, by rw [m2]; omega, ⟨fun r a => absurd a (nR r), fun o a => absurd a (nO o), fun o a => absurd a (nO o)⟩, fun r a => absurd a (nR r), fun r r' a => absurd a (nR r)⟩, fun k a b => ?_, ⟨by rw [m2]; omega, fun r a b => by rw [m3] at b; omega, fun o a b => by rw [m4] at b; omega⟩⟩
  · rw [i3 i (by omega)]
    by_cases p4 : i = 4
    · rw [p4, u1_eq, m4]
    · rw [u1_ne p4]
      by_cases p3 : i = 3
      · rw [p3, u1_eq, m3]
      · rw [u1_ne p3]
        by_cases p2 : i = 2
        · rw [p2, u1_eq, m2]
        · rw [u1_ne p2]
          by_cases p1 : i = 1
          · rw [p1, u1_eq, m1]
          · rw [u1_ne p1]
            by_cases p0 : i = 0
            · rw [p0, u1_eq, m0]
            · rw [u1_ne p0, m5 i (by omega)]
              exact hS.1 i a b
  · have hc_ : 0 ≤ c ∧ c < R * C := by unfold isC at hc_; rw [mcs] at hc_; exact hc_
    obtain ⟨j1, j2, _⟩ := i1 c hc_.1 hc_.2
    exact ⟨j1, j2.trans (mz (56 + c) (by omega) (by omega) (by omega) (by omega) (by omega)).symm⟩
  · rcases i4 k a b with z | z
    · rw [z, u1_ne (by omega), u1_ne (by omega), u1_ne (by omega), u1_ne (by omega), u1_ne (by omega)]
      exact hC k a b
    · rw [z]; omega
end PM_
