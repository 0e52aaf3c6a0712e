/-! sums, floats: what the accounts ask -/
section D8
variable {l l' m X : Int → Int} {r r' x y z t T k o g c v p f q b a w s : Int}
/-- the first z summed up -/
def spP (f : Int → Int) (z : Int) : Int := lpI (fun k a => a + f k) z.toNat 0 0
theorem spP_0 {f : Int → Int} : spP f 0 = 0 := rfl
theorem spP_s {f : Int → Int} (h : 0 ≤ z) : spP f (z + 1) = spP f z + f z := by
  unfold spP
  rw [show (z + 1).toNat = z.toNat + 1 by omega, lpI_app]
  show lpI (fun k a => a + f k) z.toNat 0 0 + f (0 + (z.toNat : Nat)) = _
  rw [show (0 : Int) + (z.toNat : Nat) = z by omega]
theorem spP_r {f : Int → Int} (lo hi : Int) (h : 0 ≤ z) (hf : ∀ i, 0 ≤ i → i < z → lo ≤ f i ∧ f i ≤ hi) : z * lo ≤ spP f z ∧ spP f z ≤ z * hi := by
  have e := lpI_rg (f := f) (lo := lo) (hi := hi) z.toNat 0 0 fun i a b => hf i a (by omega)
  rw [show ((z.toNat : Nat) : Int) = z by omega] at e
  unfold spP
  omega
abbrev fSt (l : Int → Int) (k : Int) : Int := rb l k 5
abbrev fBa (l : Int → Int) (k : Int) : Int := rb l k 1
noncomputable abbrev fLd (l : Int → Int) (k : Int) : Int := bI (isO l (rb l k 2) ∧ 0 < ob l (rb l k 2) 2)
abbrev fPk (l : Int → Int) (k : Int) : Int := ob l k 2
abbrev fLt (l : Int → Int) (k : Int) : Int := if ¬ ob l k 4 = -1 then ob l k 4 - ob l k 0 else 0
theorem e_sts5 (hR : RgC l) (h : z = l 3) : sts l 5 = spP (fSt l) z := by rw [h]; rfl
theorem e_sts1 (hR : RgC l) (h : z = l 3) : sts l 1 = spP (fBa l) z := by rw [h]; rfl
theorem e_ldn (h : z = l 3) : ldn l = spP (fLd l) z := by rw [h]; rfl
theorem e_pks (h : z = l 4) : pks l = spP (fPk l) z := by rw [h]; rfl
theorem e_lts (h : z = l 4) : lts l = spP (fLt l) z := by rw [h]; rfl
theorem b_st (hR : RgC l) (h : 0 ≤ z ∧ z ≤ l 3) : 0 ≤ spP (fSt l) z ∧ spP (fSt l) z ≤ 600000 := by
  have g := rg_r hR
  have e := spP_r (f := fSt l) 0 100000 h.1 fun i a b => rg_b6 hR ⟨a, by omega⟩
  omega
theorem b_ba (hR : RgC l) (h : 0 ≤ z ∧ z ≤ l 3) : -1800000 ≤ spP (fBa l) z ∧ spP (fBa l) z ≤ 594 := by
  have g := rg_r hR
  have e := spP_r (f := fBa l) (-300000) 99 h.1 fun i a b => rg_b1 hR ⟨a, by omega⟩
  omega
theorem b_ld (hR : RgC l) (h : 0 ≤ z ∧ z ≤ l 3) : 0 ≤ spP (fLd l) z ∧ spP (fLd l) z ≤ 6 := by
  have g := rg_r hR
  have e := spP_r (f := fLd l) 0 1 h.1 fun i a b => bI_r _
  omega
theorem b_pk (hR : RgC l) (h : 0 ≤ z ∧ z ≤ l 4) : 0 ≤ spP (fPk l) z ∧ spP (fPk l) z ≤ 30 := by
  have g := rg_o hR
  have e := spP_r (f := fPk l) 0 3 h.1 fun i a b => by have := rg_a2 hR (y := i) ⟨a, by omega⟩; show 0 ≤ ob l i 2 ∧ ob l i 2 ≤ 3; omega
  omega
theorem b_lt (hR : RgC l) (h : 0 ≤ z ∧ z ≤ l 4) : -9990 ≤ spP (fLt l) z ∧ spP (fLt l) z ≤ 1000000 := by
  have g := rg_o hR
  have e := spP_r (f := fLt l) (-999) 100000 h.1 fun i a b => by
    have e1 := rg_a0 hR (y := i) ⟨a, by omega⟩
    have e2 := rg_a5 hR (y := i) ⟨a, by omega⟩
    show -999 ≤ (if ¬ ob l i 4 = -1 then ob l i 4 - ob l i 0 else 0) ∧ (if ¬ ob l i 4 = -1 then ob l i 4 - ob l i 0 else 0) ≤ 100000
    split <;> omega
  omega
/-- loaded: it has an order of which something is picked -/
theorem ld_c (hR : RgC l) (hr : isR l r) : (rb l r 2 < 0 → bI (isO l (rb l r 2) ∧ 0 < ob l (rb l r 2) 2) = 0) ∧ (0 ≤ rb l r 2 → ob l (rb l r 2) 2 ≤ 0 → bI (isO l (rb l r 2) ∧ 0 < ob l (rb l r 2) 2) = 0) ∧ (0 ≤ rb l r 2 → 0 < ob l (rb l r 2) 2 → bI (isO l (rb l r 2) ∧ 0 < ob l (rb l r 2) 2) = 1) := by
  have e := rg_b2 hR hr
  refine ⟨fun a => bI_f fun q => ?_, fun a b => bI_f fun q => ?_, fun a b => bI_t ⟨⟨a, e.2⟩, b⟩⟩
  · have := q.1.1; omega
  · have := q.2; omega
theorem rwo_is (h : StR T l m) (hr : isR l r) (h2 : 0 ≤ rb l r 2) : rwo l (rb l r 2) = r := by
  obtain ⟨H1, H2, H3⟩ := st_hbl h
  unfold rwo
  refine fnd_only hr.1 (by have := hr.1; have := hr.2; omega) rfl fun j a b e => ?_
  exact H2 j r ⟨a, by have := hr.2; omega⟩ hr (by omega) e
theorem oin_sum (hR : RgC l) : oin l 0 + oin l 1 + oin l 2 = l 4 := by
  have g := rg_o hR
  have key : ∀ z : Int, 0 ≤ z → spP (fun k => bI (stc l k = 0)) z + spP (fun k => bI (stc l k = 1)) z + spP (fun k => bI (stc l k = 2)) z = z := by
    intro z hz
    obtain ⟨n, rfl⟩ := Int.eq_ofNat_of_zero_le hz
    clear hz
    induction n with
    | zero => rfl
    | succ n ih =>
      rw [show ((n + 1 : Nat) : Int) = (n : Int) + 1 by omega, spP_s (by omega), spP_s (by omega), spP_s (by omega)]
      have e := @stc_r l n
      rcases (by omega : stc l n = 0 ∨ stc l n = 1 ∨ stc l n = 2) with c | c | c
      · rw [bI_t c, bI_f (P := stc l n = 1) (by omega), bI_f (P := stc l n = 2) (by omega)]; omega
      · rw [bI_t c, bI_f (P := stc l n = 0) (by omega), bI_f (P := stc l n = 2) (by omega)]; omega
      · rw [bI_t c, bI_f (P := stc l n = 0) (by omega), bI_f (P := stc l n = 1) (by omega)]; omega
  exact key (l 4) g.1
theorem int_cmp (a : Int) : compare a a = Ordering.eq := by
  show compareOfLessAndEq a a = _
  unfold compareOfLessAndEq
  rw [if_neg (by omega), if_pos rfl]
theorem ord_s (d : FP.Core.Datum) (h : ¬ d = .nan) : FP.Core.order d d = some Ordering.eq := by
  match d with
  | .nan => exact absurd rfl h
  | .inf s => exact congrArg some (int_cmp _)
  | .fin s c q => exact congrArg some (int_cmp _)
theorem fcmp_s {u : UInt32} {op : CmpOp} (h : u &&& 0x7fffffff ≤ 0x7f800000) : Op.cmpValue (FP.fcmp u u) op = zi 0 := by
  have e : ¬ FP.Core.decode FP.Core.b32 u.toNat = .nan := by
    refine fn_dec _ ?_
    rw [UInt32.le_iff_toNat_le, UInt32.toNat_and] at h
    have h2 : u.toNat &&& (2 ^ 31 - 1) ≤ 2139095040 := h
    rw [Nat.and_two_pow_sub_one_eq_mod] at h2
    exact h2
  have e2 : FP.fcmp u u = some Ordering.eq := ord_s _ e
  rw [e2]
  rfl
theorem dcmp_s {u : UInt64} {op : CmpOp} (h : u &&& 0x7fffffffffffffff ≤ 0x7ff0000000000000) : Op.cmpValue (FP.dcmp u u) op = zi 0 := by
  have e : ¬ FP.Core.decode FP.Core.b64 u.toNat = .nan := by
    refine dn_dec _ ?_
    rw [UInt64.le_iff_toNat_le, UInt64.toNat_and] at h
    have h2 : u.toNat &&& (2 ^ 63 - 1) ≤ 9218868437227405312 := h
    rw [Nat.and_two_pow_sub_one_eq_mod] at h2
    exact h2
  have e2 : FP.dcmp u u = some Ordering.eq := ord_s _ e
  rw [e2]
  rfl
end D8
