/-! the reference: a tick (printed by program) -/
section RA8
variable {E : q_E} {h : q_H} {am : Nat} {M M2 : q_Im} {l l0 f : Int → Int} {r g T t k w v c e d : Int} {Mm : q_M} {pc : Nat} {ls st : List Value}
def pw (r : Int) : Int := [1, 2, 4, 8, 16, 32, 64].getD r.toNat 0
abbrev ebt (e r : Int) : Int := e / pw r % 2
theorem pw_shl : ∀ k : Fin 6, zi 1 <<< (zi ((k : Nat) : Int) &&& 31) = zi (pw ((k : Nat) : Int)) := by decide +kernel
theorem pw_ior : ∀ (k : Fin 6) (e : Fin 64), ((e : Nat) : Int) < pw ((k : Nat) : Int) → zi ((e : Nat) : Int) ||| zi (pw ((k : Nat) : Int)) = zi (((e : Nat) : Int) + pw ((k : Nat) : Int)) := by decide +kernel
theorem pw_0 : ∀ (e : Fin 64), zi ((e : Nat) : Int) ||| zi 0 = zi ((e : Nat) : Int) := by decide +kernel
theorem pw_bit : ∀ (k : Fin 6) (e : Fin 64), (zi ((e : Nat) : Int) >>> (zi ((k : Nat) : Int) &&& 31)) &&& zi 1 = zi (ebt ((e : Nat) : Int) ((k : Nat) : Int)) := by decide +kernel
theorem pw_c {P : Int → Prop} (h0 : P 0) (h1 : P 1) (h2 : P 2) (h3 : P 3) (h4 : P 4) (h5 : P 5) (hk : 0 ≤ k ∧ k < 6) : P k := by
  rcases (by omega : k = 0 ∨ k = 1 ∨ k = 2 ∨ k = 3 ∨ k = 4 ∨ k = 5) with z | z | z | z | z | z <;> rw [z] <;> assumption
theorem pw_b (hk : 0 ≤ k ∧ k < 6) : 1 ≤ pw k ∧ pw k ≤ 32 ∧ pw (k + 1) = pw k + pw k := pw_c (P := fun k => 1 ≤ pw k ∧ pw k ≤ 32 ∧ pw (k + 1) = pw k + pw k) (by decide) (by decide) (by decide) (by decide) (by decide) (by decide) hk
theorem eb_shl (hk : 0 ≤ k ∧ k < 6) : zi 1 <<< (zi k &&& 31) = zi (pw k) := by
  have := pw_shl ⟨k.toNat, by omega⟩
  have e : ((k.toNat : Nat) : Int) = k := Int.toNat_of_nonneg hk.1
  simp only [e] at this
  exact this
theorem eb_ior (hk : 0 ≤ k ∧ k < 6) (he : 0 ≤ e ∧ e < pw k) : zi e ||| zi (pw k) = zi (e + pw k) := by
  have hb := pw_b hk
  have := pw_ior ⟨k.toNat, by omega⟩ ⟨e.toNat, by omega⟩
  have e1 : ((k.toNat : Nat) : Int) = k := Int.toNat_of_nonneg hk.1
  have e2 : ((e.toNat : Nat) : Int) = e := Int.toNat_of_nonneg he.1
  simp only [e1, e2] at this
  exact this he.2
theorem eb_ior0 (he : 0 ≤ e ∧ e < 64) : zi e ||| zi 0 = zi e := by
  have := pw_0 ⟨e.toNat, by omega⟩
  have e2 : ((e.toNat : Nat) : Int) = e := Int.toNat_of_nonneg he.1
  simp only [e2] at this
  exact this
theorem eb_and (hk : 0 ≤ k ∧ k < 6) (he : 0 ≤ e ∧ e < 64) : (zi e >>> (zi k &&& 31)) &&& zi 1 = zi (ebt e k) := by
  have := pw_bit ⟨k.toNat, by omega⟩ ⟨e.toNat, by omega⟩
  have e1 : ((k.toNat : Nat) : Int) = k := Int.toNat_of_nonneg hk.1
  have e2 : ((e.toNat : Nat) : Int) = e := Int.toNat_of_nonneg he.1
  simp only [e1, e2] at this
  exact this
theorem eb_lt (hk : 0 ≤ k ∧ k < 6) (he : 0 ≤ e ∧ e < pw k) : ebt e k = 0 ∧ ebt (e + pw k) k = 1 := by
  refine pw_c (P := fun k => e < pw k → ebt e k = 0 ∧ ebt (e + pw k) k = 1) ?_ ?_ ?_ ?_ ?_ ?_ hk he.2
  all_goals intro z; simp only [pw, ebt, List.getD] at *; simp at *; omega
theorem eb_old (hk : 0 ≤ k ∧ k < 6) {i : Int} (hi : 0 ≤ i ∧ i < k) : ebt (e + pw k) i = ebt e i := by
  refine pw_c (P := fun k => ∀ i, (0 ≤ i ∧ i < k) → ebt (e + pw k) i = ebt e i) ?_ ?_ ?_ ?_ ?_ ?_ hk i hi
  all_goals
    intro i hi
    refine pw_c (P := fun i => i < _ → _ = _) ?_ ?_ ?_ ?_ ?_ ?_ (show 0 ≤ i ∧ i < 6 by omega) hi.2
    all_goals intro z; simp only [pw, ebt, List.getD] at *; simp at *; try omega
theorem ebt_r : 0 ≤ ebt e r ∧ ebt e r ≤ 1 := by
  have a1 := Int.emod_nonneg (e / pw r) (show (2 : Int) ≠ 0 by decide)
  have a2 := Int.emod_lt_of_pos (e / pw r) (show (0 : Int) < 2 by decide)
  exact ⟨a1, by show e / pw r % 2 ≤ 1; omega⟩
/-- which plans end in this tick -/
def EBk (l : Int → Int) (e k : Int) : Prop := (0 ≤ e ∧ e < pw k) ∧ ∀ i, 0 ≤ i → i < k → (ebt e i = 1 ↔ rb l i 3 = 1)
theorem ebk_0 : EBk l 0 0 := ⟨by decide, fun i a b => by omega⟩
theorem ebk_t (hk : 0 ≤ k ∧ k < 6) (h : EBk l e k) (hp : rb l k 3 = 1) : EBk l (e + pw k) (k + 1) := by
  have hb := pw_b hk
  refine ⟨by rw [hb.2.2]; have := h.1; omega, fun i a b => ?_⟩
  by_cases z : i = k
  · rw [z, (eb_lt hk h.1).2]; exact ⟨fun _ => hp, fun _ => rfl⟩
  · rw [eb_old hk ⟨a, by omega⟩]; exact h.2 i a (by omega)
theorem ebk_f (hk : 0 ≤ k ∧ k < 6) (h : EBk l e k) (hp : ¬ rb l k 3 = 1) : EBk l e (k + 1) := by
  have hb := pw_b hk
  refine ⟨by rw [hb.2.2]; have := h.1; omega, fun i a b => ?_⟩
  by_cases z : i = k
  · rw [z, (eb_lt hk h.1).1]; exact ⟨fun e => absurd e (by decide), fun e => absurd e hp⟩
  · exact h.2 i a (by omega)
/-- a robot goes on, or is charged -/
def tk1 (l : Int → Int) (r : Int) : Int → Int := if 0 < rb l r 3 then tkm l r else if l (8 + rb l r 0) = 2 then rset l r (u1 (rb l r) 1 (min 99 (rb l r 1 + l 5))) else l
def mt1 : Nat → Int → (Int → Int) → (Int → Int)
  | 0, _, l => l
  | n + 1, k, l => mt1 n (k + 1) (tk1 l k)
def mt2 (l0 : Int → Int) : Nat → Int → (Int → Int) → (Int → Int)
  | 0, _, l => l
  | n + 1, k, l => mt2 l0 n (k + 1) (if rb l0 k 3 = 1 then enL l k else l)
def mtV (l0 : Int → Int) : Nat → Int → (Int → Int) → Int → Int
  | 0, _, _, d => d
  | n + 1, k, l, d => mtV l0 n (k + 1) (if rb l0 k 3 = 1 then enL l k else l) (d + (if rb l0 k 3 = 1 then enV l k else 0))
def tmP (l : Int → Int) : Int → Int := mt1 (l 3).toNat 0 (u1 l 2 (l 2 + 1))
def tmL (l : Int → Int) : Int → Int := mt2 l (l 3).toNat 0 (tmP l)
def tmV (l : Int → Int) : Int := mtV l (l 3).toNat 0 (tmP l) 0
theorem mt1_b {n : Int} (h : k < n) : mt1 (n - k).toNat k l = mt1 (n - (k + 1)).toNat (k + 1) (tk1 l k) := by
  rw [show (n - k).toNat = (n - (k + 1)).toNat + 1 by omega]; rfl
theorem mt1_e {n : Int} (h : n ≤ k) : mt1 (n - k).toNat k l = l := by
  rw [show (n - k).toNat = 0 by omega]; rfl
theorem mt2_b {n : Int} (h : k < n) : mt2 l0 (n - k).toNat k l = mt2 l0 (n - (k + 1)).toNat (k + 1) (if rb l0 k 3 = 1 then enL l k else l) := by
  rw [show (n - k).toNat = (n - (k + 1)).toNat + 1 by omega]; rfl
theorem mt2_e {n : Int} (h : n ≤ k) : mt2 l0 (n - k).toNat k l = l := by
  rw [show (n - k).toNat = 0 by omega]; rfl
theorem mtV_b {n : Int} (h : k < n) : mtV l0 (n - k).toNat k l d = mtV l0 (n - (k + 1)).toNat (k + 1) (if rb l0 k 3 = 1 then enL l k else l) (d + (if rb l0 k 3 = 1 then enV l k else 0)) := by
  rw [show (n - k).toNat = (n - (k + 1)).toNat + 1 by omega]; rfl
theorem mtV_e {n : Int} (h : n ≤ k) : mtV l0 (n - k).toNat k l d = d := by
  rw [show (n - k).toNat = 0 by omega]; rfl
theorem rset_r {f : Int → Int} (hr : ∀ k, -1000000 ≤ l k ∧ l k ≤ 1000000) (hf : ∀ k, 0 ≤ k → k < 36 → -1000000 ≤ f k ∧ f k ≤ 1000000) (i : Int) : -1000000 ≤ rset l r f i ∧ rset l r f i ≤ 1000000 := by
  unfold rset
  by_cases z : 104 + 36 * r ≤ i ∧ i < 140 + 36 * r
  · rw [if_pos z]; exact hf _ (by omega) (by omega)
  · rw [if_neg z]; exact hr i
theorem rg_rset {f : Int → Int} (hR : Rg l) (hT : 0 ≤ l 2) (h1 : isR l r) (hC : RgC (rset l r f)) (hf : ∀ k, 0 ≤ k → k < 36 → -1000000 ≤ f k ∧ f k ≤ 1000000) : Rg (rset l r f) := by
  obtain ⟨hr, g0, g1, g3, g4, gc, g5, g6, g7, gk, gl, gr, go⟩ := hR
  refine rg_of (rset_r hr hf) hC fun o a b => ?_
  rw [rset_o (by omega)] at b
  rw [show ob (rset l r f) o 3 = ob l o 3 from rset_o (k := 320 + 8 * o + 3) (by omega), rset_o (by omega)]
  exact (go o a b).2
theorem gon_r {n o : Int} {f : Int → Int} (hf : Rf n o f) (h : 0 < f 3) (hr : ∀ k, -1000000 ≤ f k ∧ f k ≤ 1000000) (a : -300000 ≤ f 1 - f 4) (b : f 5 + 1 ≤ 100000) (i : Int) : -1000000 ≤ gon f i ∧ gon f i ≤ 1000000 := by
  obtain ⟨q0, q1, q2, q3, q4, q5, q6⟩ := hf
  have h7 : ahf f 1 = f 6 := by
    unfold ahf
    rw [if_neg (by omega), if_neg (by omega)]
    rfl
  have hz := hr 6
  have hi := hr i
  have hj := hr (i + 1)
  unfold gon
  rw [h7]
  repeat' split
  all_goals omega
theorem tk1_ok (hR : Rg l) (hT : 0 ≤ l 2) (h1 : isR l k) (hB : TBk T k l) (h0 : 0 ≤ T) (h2 : T ≤ 99000) : Rg (tk1 l k) ∧ TBk T (k + 1) (tk1 l k) ∧ (∀ i, i < 104 → tk1 l k i = l i) ∧ (∀ i, 320 ≤ i → tk1 l k i = l i) ∧ ∀ r, k < r → ∀ j, 0 ≤ j → j < 36 → rb (tk1 l k) r j = rb l r j := by
  have hC := rgc_of hR hT
  have hr := hR.1
  obtain ⟨q0, q1, q2, q3, q4, q5, q6⟩ := id (rgc_r hC h1)
  obtain ⟨b1, b2⟩ := (hB.2.1 k h1.1 h1.2).2 (by omega)
  have g5 := hC.2.2.2.2.2.2.1
  have g3 := hC.2.2.2.1
  unfold tk1
  by_cases c : 0 < rb l k 3
  · rw [if_pos c]
    have hR2 : RgC (tkm l k) := rgc_rset hC h1 (gon_rf (rgc_r hC h1) c (by omega) (by omega))
    refine ⟨rg_rset hR hT h1 hR2 (fun i a b => gon_r (rgc_r hC h1) c (fun j => hr _) (by omega) (by omega) i), tbk_rset g3 hB h1 ?_ ?_, fun i hi => rset_o (by omega), fun i hi => rset_o (by omega), fun r hr j a b => rset_ne a b (by omega)⟩
    · rw [gon_1]; split <;> omega
    · rw [gon_5]; split <;> omega
  · rw [if_neg c]
    by_cases c2 : l (8 + rb l k 0) = 2
    · rw [if_pos c2]
      have hR2 : RgC (rset l k (u1 (rb l k) 1 (min 99 (rb l k 1 + l 5)))) := by
        refine rgc_rset hC h1 ⟨q0, ?_, q2, q3, q4, q5, fun t a b => ?_⟩
        · show -300000 ≤ min 99 (rb l k 1 + l 5) ∧ min 99 (rb l k 1 + l 5) ≤ 99
          omega
        · rw [u1_ne (by omega)]
          exact q6 t a b
      refine ⟨rg_rset hR hT h1 hR2 (fun i a b => ?_), tbk_rset g3 hB h1 ?_ ?_, fun i hi => rset_o (by omega), fun i hi => rset_o (by omega), fun r hr j a b => rset_ne a b (by omega)⟩
      · by_cases z : i = 1
        · rw [z, u1_eq]; omega
        · rw [u1_ne z]; exact hr _
      · show -3 * (T + 1) ≤ min 99 (rb l k 1 + l 5)
        omega
      · show rb l k 5 ≤ T + 1
        omega
    · rw [if_neg c2]
      exact ⟨hR, ⟨hB.1, fun r a b => ⟨(hB.2.1 r a b).1, fun e => (hB.2.1 r a b).2 (by omega)⟩, hB.2.2⟩, fun _ _ => rfl, fun _ _ => rfl, fun _ _ _ _ _ => rfl⟩
theorem u1_comm {i j a b : Int} (hij : i ≠ j) : u1 (u1 l i a) j b = u1 (u1 l j b) i a := by
  funext x
  by_cases z : x = i
  · subst z; rw [u1_ne hij, u1_eq, u1_eq]
  · by_cases y : x = j
    · subst y; rw [u1_eq, u1_ne z, u1_eq]
    · rw [u1_ne y, u1_ne z, u1_ne z, u1_ne y]
theorem u1_self {i : Int} : u1 l i (l i) = l := by
  funext x
  by_cases z : x = i
  · subst z; rw [u1_eq]
  · rw [u1_ne z]
/-- a plan's end, by the class's words -/
theorem en_ep (hC : RgC l) (h1 : isR l r) : enL l r = (if epB l r then u1 (epL l r) (320 + 8 * rb l r 2 + 3) (-1) else epL l r) ∧ enV l r = epV l r := by
  obtain ⟨q0, q1, q2, q3, q4, q5, q6⟩ := id (rgc_r hC h1)
  have g3 := hC.2.2.2.1
  unfold enL enV epV epL
  by_cases c0 : rb l r 2 < 0
  · have a1 : ¬ epA l r := fun z => absurd z.1.1 (by omega)
    have a2 : ¬ epB l r := fun z => absurd z.1.1 (by omega)
    rw [if_pos c0, if_pos c0, if_neg a2, if_neg a1, if_neg a2, if_neg a2]
    exact ⟨rfl, rfl⟩
  · have hO : isO l (rb l r 2) := ⟨by omega, q2.2⟩
    rw [if_neg c0, if_neg c0]
    by_cases c1 : ob l (rb l r 2) 2 < ob l (rb l r 2) 1
    · rw [if_pos c1, if_pos c1]
      have a2 : ¬ epB l r := fun z => absurd z.2.2.1 (by omega)
      rw [if_neg a2, if_neg a2, if_neg a2]
      by_cases c2 : ob l (rb l r 2) (5 + ob l (rb l r 2) 2) = rb l r 0
      · rw [if_pos c2, if_pos (show epA l r from ⟨hO, c1, c2⟩)]
        exact ⟨rfl, rfl⟩
      · rw [if_neg c2, if_neg (show ¬ epA l r from fun z => c2 z.2.2), Int.add_zero]
        exact ⟨u1_self (i := 320 + 8 * rb l r 2 + 2), rfl⟩
    · have a1 : ¬ epA l r := fun z => c1 z.2.1
      have hOf := rgc_o hC hO
      rw [if_neg c1, if_neg c1, if_neg a1]
      by_cases c2 : l (8 + rb l r 0) = 3
      · have a2 : epB l r := ⟨hO, fun z => c1 z.1, by omega, c2⟩
        rw [if_pos c2, if_pos c2, if_pos a2, if_pos a2, if_pos a2]
        exact ⟨u1_comm (by have := h1.2; omega), rfl⟩
      · have a2 : ¬ epB l r := fun z => c2 z.2.2.2
        rw [if_neg c2, if_neg c2, if_neg a2, if_neg a2, if_neg a2]
        exact ⟨rfl, rfl⟩
theorem tb_99 (h : TB0 T l) (hT : 0 ≤ T) (h2 : T ≤ 99000) : TBk 99000 (k + 1) l := ⟨by have := h.1; omega, fun r a b => by have := h.2.1 r a b; omega, fun o a b => by have := h.2.2 o a b; omega⟩
theorem u1_rg2 (hR : Rg l) (hT : 0 ≤ l 2) (h1 : isR l r) {v : Int} (hv : -1 ≤ v ∧ v < l 4) : Rg (u1 l (104 + 36 * r + 2) v) := by
  have g4 := hR.2.2.2.2.1
  have g3 := hR.2.2.2.1
  exact rg_u hR (by have := h1.2; omega) (by omega) (rgc_rf (rgc_of hR hT) h1 hv.1 hv.2)
theorem enL_ok (hR : Rg l) (hT : 0 ≤ l 2) (h1 : isR l r) (hB : TB0 T l) (h0 : 0 ≤ T) (h2 : T ≤ 99000) : Rg (enL l r) ∧ TB0 T (enL l r) ∧ (∀ i, i < 104 → enL l r i = l i) ∧ ∀ r', isR l r' → ∀ j, 0 ≤ j → j < 36 → j ≠ 2 ∨ r' ≠ r → rb (enL l r) r' j = rb l r' j := by
  have hC := rgc_of hR hT
  have hr := hR.1
  have gq := rgc_r hC h1
  have g3 := hC.2.2.2.1
  have g4 := hC.2.2.2.2.1
  have hx := (epL_ok hC h1 (tb_99 (k := r) hB h0 h2) (by omega)).1
  have e := (en_ep hC h1).1
  unfold epL at hx e
  by_cases a1 : epA l r
  · have a2 : ¬ epB l r := fun z => z.2.1 a1.2
    rw [if_pos a1] at hx e
    rw [if_neg a2] at e
    rw [e]
    have hO := rgc_o hC a1.1
    have hOO := a1.1
    have gO := hR.2.2.2.2.2.2.2.2.2.2.2.2
    refine ⟨rg_of (u1_r hr (by omega)) hx fun o a b => ?_, ⟨?_, fun r' a b => ?_, fun o a b => ?_⟩, fun i hi => u1_ne (by omega), fun r' hr' j a b _ => u1_ne (i := 104 + 36 * r' + j) (by omega)⟩
    · rw [u1_ne (by omega)] at b
      rw [show ob (u1 l (320 + 8 * rb l r 2 + 2) (ob l (rb l r 2) 2 + 1)) o 3 = ob l o 3 from u1_ne (i := 320 + 8 * o + 3) (by omega), u1_ne (by omega)]
      exact (gO o a b).2
    · rw [u1_ne (by omega)]; exact hB.1
    · rw [u1_ne (by omega)] at b
      rw [show rb (u1 l (320 + 8 * rb l r 2 + 2) (ob l (rb l r 2) 2 + 1)) r' 1 = rb l r' 1 from u1_ne (i := 104 + 36 * r' + 1) (by omega), show rb (u1 l (320 + 8 * rb l r 2 + 2) (ob l (rb l r 2) 2 + 1)) r' 5 = rb l r' 5 from u1_ne (i := 104 + 36 * r' + 5) (by omega)]
      exact hB.2.1 r' a b
    · rw [u1_ne (by omega)] at b
      rw [show ob (u1 l (320 + 8 * rb l r 2 + 2) (ob l (rb l r 2) 2 + 1)) o 4 = ob l o 4 from u1_ne (i := 320 + 8 * o + 4) (by omega)]
      exact hB.2.2 o a b
  · rw [if_neg a1] at hx e
    by_cases a2 : epB l r
    · have hOO := a2.1
      have e2 : enL l r = u1 (u1 (u1 l (320 + 8 * rb l r 2 + 4) (l 2)) (320 + 8 * rb l r 2 + 3) (-1)) (104 + 36 * r + 2) (-1) := by
        unfold enL
        rw [if_neg (by have := hOO.1; omega), if_neg (by have := a2.2.2.1; omega), if_pos a2.2.2.2]
      rw [e2]
      have gO := hR.2.2.2.2.2.2.2.2.2.2.2.2
      have hC4 : RgC (u1 l (320 + 8 * rb l r 2 + 4) (l 2)) := by
        obtain ⟨p0, p1, p2, p4, p5, p6⟩ := rgc_o hC hOO
        have hb := hB.1
        rw [← oset_u (l := l) (o := rb l r 2) (v := l 2) (k := 4) (by omega) (by omega)]
        refine rgc_oset hC hOO ⟨p0, p1, p2, ?_, fun t a b => ?_, fun t a b => ?_⟩
        · show -1 ≤ l 2 ∧ l 2 ≤ 100000
          omega
        · rw [u1_ne (by omega)]; exact p5 t a b
        · rw [u1_ne (by omega)]; exact p6 t a b
      have hR4 : Rg (u1 l (320 + 8 * rb l r 2 + 4) (l 2)) := by
        refine rg_of (u1_r hr (hr 2)) hC4 fun o a b => ?_
        rw [u1_ne (by omega)] at b
        rw [show ob (u1 l (320 + 8 * rb l r 2 + 4) (l 2)) o 3 = ob l o 3 from u1_ne (i := 320 + 8 * o + 3) (by omega), u1_ne (by omega)]
        exact (gO o a b).2
      have hR3 : Rg (u1 (u1 l (320 + 8 * rb l r 2 + 4) (l 2)) (320 + 8 * rb l r 2 + 3) (-1)) := rg_by hR4 (by rw [u1_ne (by omega)]; exact hT) ⟨by omega, by rw [u1_ne (by omega)]; omega⟩ (by rw [u1_ne (by omega)]; omega)
      have hR2 : Rg (u1 (u1 (u1 l (320 + 8 * rb l r 2 + 4) (l 2)) (320 + 8 * rb l r 2 + 3) (-1)) (104 + 36 * r + 2) (-1)) := u1_rg2 hR3 (by rw [u1_ne (by omega), u1_ne (by omega)]; exact hT) ⟨h1.1, by rw [u1_ne (by omega), u1_ne (by omega)]; exact h1.2⟩ (by rw [u1_ne (by omega), u1_ne (by omega)]; omega)
      have hs (i : Int) (hi : i < 104) : u1 (u1 (u1 l (320 + 8 * rb l r 2 + 4) (l 2)) (320 + 8 * rb l r 2 + 3) (-1)) (104 + 36 * r + 2) (-1) i = l i := by
        rw [u1_ne (by omega), u1_ne (by omega), u1_ne (by omega)]
      have hq (r' : Int) (hr' : isR l r') (j : Int) (a : 0 ≤ j) (b : j < 36) (c : j ≠ 2 ∨ r' ≠ r) : rb (u1 (u1 (u1 l (320 + 8 * rb l r 2 + 4) (l 2)) (320 + 8 * rb l r 2 + 3) (-1)) (104 + 36 * r + 2) (-1)) r' j = rb l r' j := by
        have h6 := hr'.2
        show u1 (u1 (u1 l (320 + 8 * rb l r 2 + 4) (l 2)) (320 + 8 * rb l r 2 + 3) (-1)) (104 + 36 * r + 2) (-1) (104 + 36 * r' + j) = l (104 + 36 * r' + j)
        rw [u1_ne (by omega), u1_ne (by omega), u1_ne (by omega)]
      refine ⟨hR2, ⟨by rw [hs 2 (by omega)]; exact hB.1, fun r' a b => ?_, fun o a b => ?_⟩, hs, hq⟩
      · rw [hs 3 (by omega)] at b
        rw [hq r' ⟨a, b⟩ 1 (by omega) (by omega) (by omega), hq r' ⟨a, b⟩ 5 (by omega) (by omega) (by omega)]
        exact hB.2.1 r' a b
      · rw [hs 4 (by omega)] at b
        show u1 (u1 (u1 l (320 + 8 * rb l r 2 + 4) (l 2)) (320 + 8 * rb l r 2 + 3) (-1)) (104 + 36 * r + 2) (-1) (320 + 8 * o + 4) ≤ T
        rw [u1_ne (by have := h1.2; omega), u1_ne (by omega)]
        by_cases z : o = rb l r 2
        · rw [z, u1_eq]; exact hB.1
        · rw [u1_ne (by omega)]
          exact hB.2.2 o a b
    · rw [if_neg a2, if_neg a2] at e
      rw [e]
      exact ⟨hR, hB, fun _ _ => rfl, fun _ _ _ _ _ _ => rfl⟩
end RA8
