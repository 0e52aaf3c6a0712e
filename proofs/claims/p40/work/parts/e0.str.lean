/-! texts: constants and made ones; their bytes -/
/-- bytes at b: in the heap, or a constant's -/
def TBy (E : q_E) (h : q_H) (b n : Nat) (f : Int → Int) : Prop := AI h b 4 n f ∨ (h.1 b = none ∧ ∃ v, E.2 b = some (.byte, n, v) ∧ ∀ k : Nat, k < n → v k = .int (zi (f k)))
/-- a text at a, its bytes at b -/
def TXT (E : q_E) (h : q_H) (a b n : Nat) (f : Int → Int) : Prop := (n ≤ 60 ∧ ∀ k : Int, 0 ≤ k → k < n → 0 ≤ f k ∧ f k ≤ 127) ∧ q_iS E h a ∧ (q_gE E h a 9 0 = some (.ref b) ∧ q_gE E h a 9 1 = some (.int (zi 0))) ∧ TBy E h b n f
/-- a builder at a, n bytes of its array at v -/
def SBO (h : q_H) (a v cp : Nat) (n : Int) (g : Int → Int) : Prop := h.1 a = some (.inr (8, [.ref v, .int (zi 0), .int (zi 0), .int (zi n)])) ∧ AI h v 4 cp g
section E0
variable {E : q_E} {h h' : q_H} {a b c d n m i N cp v w s x : Nat} {f g : Int → Int} {z k : Int}
theorem by_l (H : TBy E h b n f) : q_len E h b = some (zi n) := by
  rcases H with H | ⟨h0, v, e, _⟩
  · exact ai_l H (by decide)
  · exact q_len_ro h0 e
theorem by_g (H : TBy E h b n f) (h1 : 0 ≤ k) (h2 : k < n) (hn : n < 1000) : q_gB E h b (zi k) = some (.int (zi (f k))) := by
  have hq : ¬ q_out (zi k) n := zi_in h1 h2 (by omega)
  rcases H with ⟨g, e1, e2⟩ | ⟨h0, v, e, ev⟩
  · unfold q_gB
    rw [e1]
    simp only
    rw [if_pos hq, zi_nat h1 (by omega), e2 _ (by omega), Int.toNat_of_nonneg h1]
  · unfold q_gB
    rw [h0]
    simp only [e]
    rw [if_pos hq, zi_nat h1 (by omega), ev _ (by omega), Int.toNat_of_nonneg h1]
theorem fits_b {z : Int} (h1 : 0 ≤ z) (h2 : z ≤ 127) : fits .byte (.int (zi z)) = true := by
  obtain ⟨j, rfl⟩ := Int.eq_ofNat_of_zero_le h1
  have key : ∀ j : Fin 128, fits .byte (.int (zi (j.val : Int))) = true := by decide +kernel
  exact key ⟨j, by omega⟩
/-- bytes laid into an array of bytes -/
theorem by_c {dp : Int} (H0 : TBy E h b n f) (hf : ∀ k : Int, 0 ≤ k → k < n → 0 ≤ f k ∧ f k ≤ 127) (H : AI h d 4 m g) (e1 : 0 ≤ dp) (e2 : dp + n ≤ m) (hm : m < 100000) : ∃ h', q_cpy E h b (zi 0) d (zi dp) (zi n) = some h' ∧ AI h' d 4 m (cpI f g 0 dp n) ∧ Fr d 1 h h' := by
  obtain ⟨g1, b1, b2⟩ := H
  rcases H0 with ⟨g0, a1, a2⟩ | ⟨h0, v, e, ev⟩
  · refine ⟨_, q_cpy_B a1 b1 (by omega) e1 (by omega) (by omega) (by omega) (by omega) (by omega) (fun i hi => ?_), ⟨_, q_up_eq, fun k hk => ?_⟩, fr_up⟩
    · have hi2 : i < n := by omega
      rw [show (0 : Int).toNat + i = i by simp, a2 i hi2]
      have := hf i (by omega) (by omega)
      exact fits_b this.1 this.2
    · show (if dp.toNat ≤ k ∧ k < dp.toNat + (n : Int).toNat then g0 ((0 : Int).toNat + (k - dp.toNat)) else g1 k) = zi (if dp ≤ (k : Int) ∧ (k : Int) < dp + n then f (0 + (k - dp)) else g k)
      by_cases hz : dp.toNat ≤ k ∧ k < dp.toNat + (n : Int).toNat
      · rw [if_pos hz, if_pos (by omega), a2 _ (by omega), show (((0 : Int).toNat + (k - dp.toNat) : Nat) : Int) = 0 + (k - dp) by omega]
      · rw [if_neg hz, if_neg (by omega), b2 k hk]
  · refine ⟨_, q_cpy_C h0 e b1 (by omega) e1 (by omega) (by omega) (by omega) (by omega) (by omega) (fun i hi => ?_), ⟨_, q_up_eq, fun k hk => ?_⟩, fr_up⟩
    · have hi2 : i < n := by omega
      have q : q_iv v ((0 : Int).toNat + i) = zi (f i) := by
        unfold q_iv
        rw [show (0 : Int).toNat + i = i by simp, ev i hi2]
      rw [q, show (0 : Int).toNat + i = i by simp, ev i hi2]
      have := hf i (by omega) (by omega)
      exact ⟨rfl, fits_b this.1 this.2⟩
    · show (if dp.toNat ≤ k ∧ k < dp.toNat + (n : Int).toNat then q_iv v ((0 : Int).toNat + (k - dp.toNat)) else g1 k) = zi (if dp ≤ (k : Int) ∧ (k : Int) < dp + n then f (0 + (k - dp)) else g k)
      by_cases hz : dp.toNat ≤ k ∧ k < dp.toNat + (n : Int).toNat
      · rw [if_pos hz, if_pos (by omega)]
        unfold q_iv
        rw [ev _ (by omega)]
        show zi (f (((0 : Int).toNat + (k - dp.toNat) : Nat) : Int)) = _
        rw [show (((0 : Int).toNat + (k - dp.toNat) : Nat) : Int) = 0 + (k - dp) by omega]
      · rw [if_neg hz, if_neg (by omega), b2 k hk]
/-- n bytes of an array laid into another -/
theorem ai_cb {dp : Int} {n : Int} {p : Nat} (H0 : AI h b 4 p f) (n0 : 0 ≤ n) (hnp : n ≤ p) (hp : p < 100000) (hf : ∀ k : Int, 0 ≤ k → k < n → 0 ≤ f k ∧ f k ≤ 127) (H : AI h d 4 m g) (e1 : 0 ≤ dp) (e2 : dp + n ≤ m) (hm : m < 100000) : ∃ h', q_cpy E h b (zi 0) d (zi dp) (zi n) = some h' ∧ AI h' d 4 m (cpI f g 0 dp n) ∧ Fr d 1 h h' := by
  obtain ⟨g1, b1, b2⟩ := H
  obtain ⟨g0, a1, a2⟩ := H0
  refine ⟨_, q_cpy_B a1 b1 (by omega) e1 (by omega) (by omega) (by omega) (by omega) (by omega) (fun i hi => ?_), ⟨_, q_up_eq, fun k hk => ?_⟩, fr_up⟩
  · have hi2 : i < p := by omega
    rw [show (0 : Int).toNat + i = i by simp, a2 i hi2]
    have := hf i (by omega) (by omega)
    exact fits_b this.1 this.2
  · show (if dp.toNat ≤ k ∧ k < dp.toNat + n.toNat then g0 ((0 : Int).toNat + (k - dp.toNat)) else g1 k) = zi (if dp ≤ (k : Int) ∧ (k : Int) < dp + n then f (0 + (k - dp)) else g k)
    by_cases hz : dp.toNat ≤ k ∧ k < dp.toNat + n.toNat
    · rw [if_pos hz, if_pos (by omega), a2 _ (by omega), show (((0 : Int).toNat + (k - dp.toNat) : Nat) : Int) = 0 + (k - dp) by omega]
    · rw [if_neg hz, if_neg (by omega), b2 k hk]
theorem shr0 : zi z >>> (zi 0 &&& 31) = zi z := by
  rw [show zi 0 &&& 31 = (0 : Int32) by decide]
  exact Int32.shiftRight_zero
theorem shl0 : zi z <<< (zi 0 &&& 31) = zi z := by
  rw [show zi 0 &&& 31 = (0 : Int32) by decide]
  exact Int32.shiftLeft_zero
theorem and255 {z : Int} (h1 : 0 ≤ z) (h2 : z ≤ 127) : zi z &&& zi 255 = zi z := by
  obtain ⟨j, rfl⟩ := Int.eq_ofNat_of_zero_le h1
  have key : ∀ j : Fin 128, zi (j.val : Int) &&& zi 255 = zi (j.val : Int) := by decide +kernel
  exact key ⟨j, by omega⟩
theorem tby_fr {p q : Nat} (H : TBy E h b n f) (F : Fr p q h h') (k : b < p ∨ p + q ≤ b) : TBy E h' b n f := by
  rcases H with H | ⟨h0, e⟩
  · exact Or.inl (ai_fr H F k)
  · exact Or.inr ⟨(F.2 _ k).trans h0, e⟩
theorem iS_eq (e : h'.1 a = h.1 a) (H : q_iS E h a) : q_iS E h' a := by
  unfold q_iS at *
  rw [e]
  exact H
theorem gE_eq {ci k : Nat} (e : h'.1 a = h.1 a) : q_gE E h' a ci k = q_gE E h a ci k := by
  unfold q_gE
  rw [e]
theorem tby_eq (e : h'.1 b = h.1 b) (H : TBy E h b n f) : TBy E h' b n f := by
  rcases H with ⟨g, e1, e2⟩ | ⟨h0, e0⟩
  · exact Or.inl ⟨g, e.trans e1, e2⟩
  · exact Or.inr ⟨e.trans h0, e0⟩
theorem txt_eq (e1 : h'.1 a = h.1 a) (e2 : h'.1 b = h.1 b) (H : TXT E h a b n f) : TXT E h' a b n f := ⟨H.1, iS_eq e1 H.2.1, ⟨(gE_eq e1).trans H.2.2.1.1, (gE_eq e1).trans H.2.2.1.2⟩, tby_eq e2 H.2.2.2⟩
/-- a text that was made -/
theorem txt_new (e : h.1 a = some (.inr (9, [.ref b, .int (zi 0), .int (zi 0), .int (zi 0)]))) (H : AI h b 4 n f) (hn : n ≤ 60) (hf : ∀ k : Int, 0 ≤ k → k < n → 0 ≤ f k ∧ f k ≤ 127) : TXT E h a b n f :=
  ⟨⟨hn, hf⟩, Or.inl ⟨_, e⟩, ⟨by unfold q_gE; rw [e]; rfl, by unfold q_gE; rw [e]; rfl⟩, Or.inl H⟩
/-- a constant -/
theorem txt_cst (hE : q_EN E N) (hL : Lo h N) (hi : i < 8) : ∃ a b : Nat, E.1 (6 + 2 * i) = some (.ref a) ∧ (a < N ∧ b < N) ∧ TXT E h a b (q_stb i).length (fun k => (q_stb i).getD k.toNat 0) := by
  obtain ⟨a, b, j, ⟨ha, hb⟩, e1, e2, e3, e4⟩ := hE.2.2.2.2.2.2 i hi
  have key : ∀ i : Fin 8, (q_stb i.val).length ≤ 60 ∧ ∀ k : Fin 60, k.val < (q_stb i.val).length → 0 ≤ (q_stb i.val).getD k.val 0 ∧ (q_stb i.val).getD k.val 0 ≤ 127 := by decide +kernel
  have kk := key ⟨i, hi⟩
  refine ⟨a, b, e1, ⟨ha, hb⟩, ⟨kk.1, fun k k0 k1 => kk.2 ⟨k.toNat, by have := kk.1; have : (q_stb i).length ≤ 60 := this; omega⟩ (by show k.toNat < (q_stb i).length; omega)⟩, Or.inr ⟨hL a ha, by rw [e2]; rfl⟩, ⟨?_, ?_⟩, Or.inr ⟨hL b hb, _, e4, fun k hk => rfl⟩⟩
  · unfold q_gE
    rw [hL a ha]
    simp only [e2]
    rw [if_pos trivial]
    exact e3
  · unfold q_gE
    rw [hL a ha]
    simp only [e2]
    rw [if_pos trivial]
    rfl
end E0
