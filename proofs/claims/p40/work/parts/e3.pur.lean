/-! letters: what tells cells and robots -/
section E3
variable {l l' m X : Int → Int} {r r' x y z t T k o g c v p f q b a w s : Int}
/-- one more at one place -/
theorem spP_u {f f' : Int → Int} (hc : 0 ≤ c) (h1 : ∀ k, k ≠ c → f' k = f k) (h2 : f' c = f c + 1) : ∀ (n : Nat), spP f' n = spP f n + (if c < n then 1 else 0)
  | 0 => by
    rw [if_neg (by omega)]
    show (0 : Int) = 0 + 0
    rfl
  | n + 1 => by
    have ih := spP_u hc h1 h2 n
    rw [show ((n + 1 : Nat) : Int) = (n : Int) + 1 by omega, spP_s (by omega), spP_s (by omega), ih]
    by_cases e : (n : Int) = c
    · rw [e, h2, if_neg (by omega), if_pos (by omega)]
      omega
    · rw [h1 _ e]
      by_cases q : c < (n : Int)
      · rw [if_pos q, if_pos (by omega)]; omega
      · rw [if_neg q, if_neg (by omega)]; omega
theorem spP_c {f f' : Int → Int} : ∀ (n : Nat), (∀ k : Int, 0 ≤ k → k < n → f' k = f k) → spP f' n = spP f n
  | 0, _ => rfl
  | n + 1, h => by
    rw [show ((n + 1 : Nat) : Int) = (n : Int) + 1 by omega, spP_s (by omega), spP_s (by omega), spP_c n fun k a b => h k a (by omega), h n (by omega) (by omega)]
theorem spP_z {f : Int → Int} : ∀ (n : Nat), (∀ k : Int, 0 ≤ k → k < n → f k = 0) → spP f n = 0
  | 0, _ => rfl
  | n + 1, h => by
    rw [show ((n + 1 : Nat) : Int) = (n : Int) + 1 by omega, spP_s (by omega), spP_z n fun k a b => h k a (by omega), h n (by omega) (by omega)]
    rfl
noncomputable abbrev fRo (l : Int → Int) (k : Int) : Int := bI (0 ≤ rin l k 0)
/-- as many cells with a robot as robots -/
theorem e_rob (hR : RgC l) (hN : NDl l) : spP (fRo l) (cs l) = l 3 := by
  have gc := rg_c hR
  have gr := rg_r hR
  have key : ∀ n : Nat, (n : Int) ≤ l 3 → spP (fun k => bI (∃ r : Int, 0 ≤ r ∧ r < n ∧ ahd l r 0 = k)) (cs l).toNat = n := by
    intro n
    induction n with
    | zero => exact fun _ => spP_z _ fun k a b => bI_f fun ⟨r, h0, h1, _⟩ => by omega
    | succ n ih =>
      intro hn
      have hn' : isR l n := ⟨by omega, by omega⟩
      have hb := rg_pl hR hn' (Int.le_refl 0)
      rw [spP_u (c := ahd l n 0) hb.1 (f := fun k => bI (∃ r : Int, 0 ≤ r ∧ r < n ∧ ahd l r 0 = k)) (fun k hk => bI_c ⟨fun ⟨r, a, b, e⟩ => ⟨r, a, by
        by_cases q : r = n
        · rw [q] at e; exact absurd e.symm hk
        · omega, e⟩, fun ⟨r, a, b, e⟩ => ⟨r, a, by omega, e⟩⟩) ?_, ih (by omega), if_pos (by omega)]
      · omega
      · show bI (∃ r : Int, 0 ≤ r ∧ r < ((n + 1 : Nat) : Int) ∧ ahd l r 0 = ahd l n 0) = bI (∃ r : Int, 0 ≤ r ∧ r < n ∧ ahd l r 0 = ahd l n 0) + 1
        rw [bI_t ⟨n, by omega, by omega, rfl⟩, bI_f]
        · rfl
        · rintro ⟨r, a, b, e⟩
          exact hN r n ⟨a, by omega⟩ hn' (by omega) 0 (by omega) e
  have k3 := key (l 3).toNat (by omega)
  rw [show ((l 3).toNat : Int) = l 3 by omega] at k3
  rw [← k3]
  rw [show cs l = ((cs l).toNat : Int) by omega]
  refine spP_c _ fun k a b => bI_c ⟨fun q => ?_, fun ⟨r, h0, h1, e⟩ => ?_⟩
  · obtain ⟨p1, p2, _⟩ := fnd_p (P := fun r => ahd l r 0 = k) (n := (l 3).toNat) (k := 0) (by show ¬ rin l k 0 = -1; omega)
    exact ⟨_, p1.1, by have := p1.2; omega, p2⟩
  · have e2 : rin l (ahd l r 0) 0 = r := rin_is hN ⟨h0, h1⟩ (Int.le_refl 0)
    rw [e] at e2
    omega
theorem rin_at (h : 0 ≤ rin l k 0) : isR l (rin l k 0) ∧ rb l (rin l k 0) 0 = k := by
  obtain ⟨p1, p2, _⟩ := fnd_p (P := fun r => ahd l r 0 = k) (n := (l 3).toNat) (k := 0) (by show ¬ rin l k 0 = -1; omega)
  have p2 : ahd l (rin l k 0) 0 = k := p2
  rw [ahd_0] at p2
  exact ⟨⟨p1.1, by have := p1.2; show rin l k 0 < l 3; have e : rin l k 0 < 0 + ((l 3).toNat : Nat) := p1.2; omega⟩, p2⟩
/-- where no robot is: the kind's sign -/
theorem let_k (hR : RgC l) (hy : isC l y) (h0 : l (56 + y) = 0) (h : ¬ 0 ≤ rin l y 0) : letV l y = (q_stb 6).getD (l (8 + y)).toNat 0 := by
  have e := rg_in hR (y := y) (t := 0)
  have k := rg_k hR hy
  unfold letV
  rw [if_neg (by omega), if_neg (by omega)]
  unfold sgK
  rw [if_pos (by omega)]
  rfl
theorem let_r (h : 0 ≤ rin l y 0) : letV l y = 48 + rin l y 0 := by
  unfold letV
  rw [if_pos (by omega)]
theorem b_ro (h : 0 ≤ z) : 0 ≤ spP (fRo l) z ∧ spP (fRo l) z ≤ z := by
  have e := spP_r (f := fRo l) 0 1 h fun i a b => bI_r _
  omega
end E3
