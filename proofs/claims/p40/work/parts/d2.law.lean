/-! ranges of what the readers say; the law's cells -/
section DRG
variable {E : q_E} {M : q_M} {h h' h0 : q_H} {x N b L : Nat} {ys : Nat → Int32} {l ls c : Int → Int} {kl : Int → Int → Int} {nx ct n hs fa kr kd_ kb k k' v y z r t i g w o : Int}
theorem lpI_rg {f : Int → Int} {lo hi : Int} : ∀ (n : Nat) (k x : Int), (∀ i, k ≤ i → i < k + n → lo ≤ f i ∧ f i ≤ hi) → x + n * lo ≤ lpI (fun k a => a + f k) n k x ∧ lpI (fun k a => a + f k) n k x ≤ x + n * hi
  | 0, k, x, _ => by
    show x + ((0 : Nat) : Int) * lo ≤ x ∧ x ≤ x + ((0 : Nat) : Int) * hi
    rw [show ((0 : Nat) : Int) = 0 from rfl, Int.zero_mul, Int.zero_mul]
    omega
  | n + 1, k, x, h => by
    have e := lpI_rg n (k + 1) (x + f k) fun i a b => h i (by omega) (by omega)
    have e0 := h k (by omega) (by omega)
    show x + ((n + 1 : Nat) : Int) * lo ≤ lpI (fun k a => a + f k) n (k + 1) (x + f k) ∧ lpI (fun k a => a + f k) n (k + 1) (x + f k) ≤ x + ((n + 1 : Nat) : Int) * hi
    rw [show ((n + 1 : Nat) : Int) = (n : Int) + 1 by omega, Int.add_mul, Int.add_mul, Int.one_mul, Int.one_mul]
    omega
theorem rg_k (hR : RgC l) (hy : isC l y) : 0 ≤ l (8 + y) ∧ l (8 + y) ≤ 3 := hR.2.2.2.2.2.2.2.2.2.1 y hy.1 hy.2
theorem rg_in (hR : RgC l) : -1 ≤ rin l y t ∧ rin l y t < l 3 := by
  have := rg_r hR
  rcases @rin_r l y t with e | e <;> omega
theorem rg_b0 (hR : RgC l) (hr : isR l r) : 0 ≤ rb l r 0 ∧ rb l r 0 < cs l := (rgc_r hR hr).1
theorem rg_b1 (hR : RgC l) (hr : isR l r) : -300000 ≤ rb l r 1 ∧ rb l r 1 ≤ 99 := (rgc_r hR hr).2.1
theorem rg_b2 (hR : RgC l) (hr : isR l r) : -1 ≤ rb l r 2 ∧ rb l r 2 < l 4 := (rgc_r hR hr).2.2.1
theorem rg_b3 (hR : RgC l) (hr : isR l r) : 0 ≤ rb l r 3 ∧ rb l r 3 ≤ 30 := (rgc_r hR hr).2.2.2.1
theorem rg_b4 (hR : RgC l) (hr : isR l r) : -1 ≤ (if rb l r 3 = 0 then -1 else ahf (rb l r) (rb l r 3)) ∧ (if rb l r 3 = 0 then -1 else ahf (rb l r) (rb l r 3)) < cs l := by
  have gc := rg_c hR
  have h3 := rg_b3 hR hr
  have e : 0 ≤ ahf (rb l r) (rb l r 3) ∧ ahf (rb l r) (rb l r 3) < cs l := ahf_r (rgc_r hR hr) h3.1
  split <;> omega
theorem rg_b5 (_ : RgC l) (_ : isR l r) : 0 ≤ bI (isO l (rb l r 2) ∧ 0 < ob l (rb l r 2) 2) ∧ bI (isO l (rb l r 2) ∧ 0 < ob l (rb l r 2) 2) ≤ 1 := bI_r _
theorem rg_b6 (hR : RgC l) (hr : isR l r) : 0 ≤ rb l r 5 ∧ rb l r 5 ≤ 100000 := (rgc_r hR hr).2.2.2.2.2.1
theorem rg_a0 (hR : RgC l) (hy : isO l y) : 0 ≤ ob l y 0 ∧ ob l y 0 ≤ 999 := (rgc_o hR hy).1
theorem rg_a1 (hR : RgC l) (hy : isO l y) : 1 ≤ ob l y 1 ∧ ob l y 1 ≤ 3 := (rgc_o hR hy).2.1
theorem rg_a2 (hR : RgC l) (hy : isO l y) : 0 ≤ ob l y 2 ∧ ob l y 2 ≤ ob l y 1 ∧ ob l y 1 ≤ 3 := by
  have e1 := rg_a1 hR hy
  have e2 := (rgc_o hR hy).2.2.1
  omega
theorem rg_a3 (_ : RgC l) (_ : isO l y) : 0 ≤ stc l y ∧ stc l y ≤ 2 := stc_r
theorem rg_a4 (hR : RgC l) (_ : isO l y) : -1 ≤ rwo l y ∧ rwo l y < l 3 := by
  have := rg_r hR
  rcases @rwo_r l y with e | e <;> omega
theorem rg_a5 (hR : RgC l) (hy : isO l y) : -1 ≤ ob l y 4 ∧ ob l y 4 ≤ 100000 := (rgc_o hR hy).2.2.2.1
theorem rg_l0 (hR : RgC l) (hy : isO l y) : 0 ≤ ob l y (5 + 0) ∧ ob l y (5 + 0) < cs l := by
  have e1 := rg_a1 hR hy
  have e2 := (rgc_o hR hy).2.2.2.2.1 0 (by omega) (by omega)
  have e3 := (rgc_o hR hy).2.2.2.2.2 0 (by omega) (by omega)
  omega
theorem rg_oin (hR : RgC l) : 0 ≤ oin l w ∧ oin l w ≤ l 4 := by
  have e := rg_o hR
  have e1 := cnt_x (P := fun k => stc l k = w) (l 4).toNat 0 0
  have e2 := cnt_r (P := fun k => stc l k = w) (l 4).toNat 0
  have e3 : oin l w = lpI (fun k a => a + bI (stc l k = w)) (l 4).toNat 0 0 := rfl
  omega
theorem rg_n0 (hR : RgC l) : 1 ≤ l 0 ∧ l 0 ≤ 6 := hR.1
theorem rg_n1 (hR : RgC l) : 2 ≤ l 1 ∧ l 1 ≤ 8 := hR.2.1
theorem rg_n2 (hR : RgC l) : 0 ≤ l 3 ∧ l 3 ≤ 6 := hR.2.2.2.1
theorem rg_n3 (hR : RgC l) : 0 ≤ l 4 ∧ l 4 ≤ 10 := hR.2.2.2.2.1
theorem rg_n4 (hR : RgC l) : 0 ≤ oin l 0 ∧ oin l 0 ≤ l 4 := rg_oin hR
theorem rg_n5 (hR : RgC l) : 0 ≤ oin l 1 ∧ oin l 1 ≤ l 4 := rg_oin hR
theorem rg_n6 (hR : RgC l) : 0 ≤ oin l 2 ∧ oin l 2 ≤ l 4 := rg_oin hR
theorem rg_n7 (hR : RgC l) : 0 ≤ ccl l ∧ ccl l ≤ 48 := by
  have gc := rg_c hR
  have e := lpI_rg (f := fun k => l (56 + k)) (lo := 0) (hi := 1) (cs l).toNat 0 0 fun i a b => hR.2.2.2.2.2.2.2.2.2.2.1 i a (by omega)
  have e3 : ccl l = lpI (fun k a => a + l (56 + k)) (cs l).toNat 0 0 := rfl
  omega
theorem rg_n8 (hR : RgC l) : 0 ≤ l 2 ∧ l 2 ≤ 1000000 := hR.2.2.1
theorem rg_n9 (hR : RgC l) : 0 ≤ sts l 5 ∧ sts l 5 ≤ 600000 := by
  have g := rg_r hR
  have e := lpI_rg (f := fun k => rb l k 5) (lo := 0) (hi := 100000) (l 3).toNat 0 0 fun i a b => rg_b6 hR ⟨a, by omega⟩
  have e3 : sts l 5 = lpI (fun k a => a + rb l k 5) (l 3).toNat 0 0 := rfl
  omega
theorem rg_n10 (hR : RgC l) : 0 ≤ pks l ∧ pks l ≤ 30 := by
  have g := rg_o hR
  have e := lpI_rg (f := fun k => ob l k 2) (lo := 0) (hi := 3) (l 4).toNat 0 0 fun i a b => by have := rg_a2 hR (y := i) ⟨a, by omega⟩; omega
  have e3 : pks l = lpI (fun k a => a + ob l k 2) (l 4).toNat 0 0 := rfl
  omega
theorem rg_n11 (hR : RgC l) : -1800000 ≤ sts l 1 ∧ sts l 1 ≤ 594 := by
  have g := rg_r hR
  have e := lpI_rg (f := fun k => rb l k 1) (lo := -300000) (hi := 99) (l 3).toNat 0 0 fun i a b => rg_b1 hR ⟨a, by omega⟩
  have e3 : sts l 1 = lpI (fun k a => a + rb l k 1) (l 3).toNat 0 0 := rfl
  omega
theorem rg_n14 (hR : RgC l) : 1 ≤ l 5 ∧ l 5 ≤ 20 := hR.2.2.2.2.2.2.1
theorem rg_n15 (hR : RgC l) : 1 ≤ l 6 ∧ l 6 ≤ 3 := hR.2.2.2.2.2.2.2.1
theorem rg_n16 (hR : RgC l) : 1 ≤ l 7 ∧ l 7 ≤ 30 := hR.2.2.2.2.2.2.2.2.1
theorem rg_let (hR : RgC l) (_ : isC l y) : 0 ≤ letV l y ∧ letV l y < 65536 := by
  have e := rg_in hR (y := y) (t := 0)
  have g := rg_r hR
  have s := sgK_r (l (8 + y))
  unfold letV
  split
  · omega
  · split <;> omega
theorem dV_r {m : Int} (h : -1 ≤ v ∧ v < m) (h0 : 0 < m) : -2 ≤ dV v ∧ dV v < m ∧ ¬ dV v = -1 := by
  unfold dV
  split <;> omega
theorem rg_far (hR : RgC l) (hy : isC l y) : -2 ≤ dV (far l y z) ∧ dV (far l y z) < 48 ∧ ¬ dV (far l y z) = -1 := dV_r (far_r hR hy z).1 (by omega)
theorem rg_dst : -2 ≤ dV (dst l y z) ∧ dV (dst l y z) < 48 ∧ ¬ dV (dst l y z) = -1 := dV_r dst_r (by omega)
theorem rg_ar (hR : RgC l) : -2 ≤ arV l r g ∧ arV l r g < 31 ∧ ¬ arV l r g = -1 := by
  have e := fT_r (y := r) (z := g) hR
  have e2 : -2 ≤ dV (fT l r g) ∧ dV (fT l r g) < 31 ∧ ¬ dV (fT l r g) = -1 := dV_r (by omega) (by omega)
  unfold arV
  split
  · omega
  · split <;> omega
theorem rg_wor (hR : RgC l) : -2 ≤ dV (wor l i) ∧ dV (wor l i) < 10 ∧ ¬ dV (wor l i) = -1 := by
  have g := rg_o hR
  refine dV_r ?_ (by omega)
  rcases @wor_r l i with e | e <;> omega
theorem rg_re (h : -1 ≤ kr ∧ kr ≤ 20) : -2 ≤ reV kr ∧ reV kr ≤ 20 := by
  unfold reV
  split <;> omega
theorem emod_r {a b : Int} (h : 0 ≤ a) (hb : 0 < b) : 0 ≤ a % b ∧ a % b < b := ⟨Int.emod_nonneg _ (by omega), Int.emod_lt_of_pos _ hb⟩
theorem zi_neg : -zi v = zi (-v) := by
  unfold zi
  rw [Int32.ofInt_neg]
theorem shr_x (p : Int32) {q : Int} (h1 : 1 ≤ q) (h2 : q ≤ 31) : ∃ z : Int, 0 ≤ z ∧ z < 2147483648 ∧ (p.toUInt32 >>> ((zi q).toUInt32 &&& Int32.toUInt32 31)).toInt32 = zi z := by
  obtain ⟨j, rfl⟩ := Int.eq_ofNat_of_zero_le (show 0 ≤ q by omega)
  have hj : j < 32 := by omega
  have hq : ((zi (j : Int)).toUInt32 &&& Int32.toUInt32 31).toNat = j := by
    have : ∀ k : Nat, k < 32 → ((zi (k : Int)).toUInt32 &&& Int32.toUInt32 31).toNat = k := by decide +kernel
    exact this j hj
  have hv : (p.toUInt32 >>> ((zi (j : Int)).toUInt32 &&& Int32.toUInt32 31)).toNat < 2147483648 := by
    rw [UInt32.toNat_shiftRight, hq, Nat.mod_eq_of_lt hj, Nat.shiftRight_eq_div_pow]
    have h3 : p.toUInt32.toNat < 4294967296 := p.toUInt32.toNat_lt
    have h4 : 2 ^ 1 ≤ 2 ^ j := Nat.pow_le_pow_right (by omega) (by omega)
    exact Nat.div_lt_of_lt_mul (by omega)
  generalize p.toUInt32 >>> ((zi (j : Int)).toUInt32 &&& Int32.toUInt32 31) = u at *
  refine ⟨u.toNat, by omega, by omega, ?_⟩
  apply Int32.toBitVec_inj.mp
  apply BitVec.eq_of_toNat_eq
  show u.toNat = (BitVec.ofInt 32 (u.toNat : Int)).toNat
  rw [BitVec.toNat_ofInt]
  omega
end DRG
