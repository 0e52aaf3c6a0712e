/-! the reference: where a plan can end (printed by program) -/
section RX
variable {E : q_E} {h : q_H} {am : Nat} {M M2 : q_Im} {l g : Int → Int} {y k : Int}
/-- a cell beside from which one comes to g at tick t -/
def cmE (M : q_Im) (r g t w : Int) : Prop := 0 ≤ bes (M 1) g w ∧ ¬ M 5 (48 * (t - 1) + bes (M 1) g w) = 0 ∧ mgo (M 1) r (bes (M 1) g w) g (t - 1)
def cnE (M : q_Im) (r g t : Int) : Prop := (∃ w, (0 ≤ w ∧ w < 4) ∧ cmE M r g t w) ∧ wbe (M 1) g (t + 1) r < 0
theorem S_X8_canEnd (hR : Rg (M 1)) (hB : ∀ k, 0 ≤ k → k < 1488 → 0 ≤ M 5 k ∧ M 5 k ≤ 1) {r g t : Int} (h1 : isR (M 1) r) (h2 : isC (M 1) g) (ht : 1 ≤ t ∧ t ≤ 30) : ∃ r_ h', q_cl E q_m_X8_canEnd [Value.ref am, Value.int (zi r), Value.int (zi g), Value.int (zi t)] (q_mw h am M) = some (r_, h') ∧ (r_ = .inl (some (.int (zi (bI (cnE M r g t))))) ∧ h' = q_mw h am M) := by
  suffices K : ∀ Q : q_R → q_H → Prop, (∀ r_ h', (r_ = .inl (some (.int (zi (bI (cnE M r g t))))) ∧ h' = q_mw h am M) → Q r_ h') → Xv E q_m_X8_canEnd 0 [Value.ref am, Value.int (zi r), Value.int (zi g), Value.int (zi t), Value.null, Value.null, Value.null] [] (q_mw h am M) Q from K _ fun _ _ p => p
  intro Q hQ
  have hR0 := hR
  obtain ⟨hr, g0, g1, g3, g4, gc, g5, g6, g7, gk, gl, gr, go⟩ := hR0
  refine xv (x_iconst 1 d_X8_canEnd_0 rfl) ?_
  refine xv (x_istore 3 d_X8_canEnd_1 rfl (Nat.le_of_ble_eq_true rfl)) ?_
  show Xv E q_m_X8_canEnd 3 [Value.ref am, Value.int (zi r), Value.int (zi g), Value.int (zi t), Value.int (zi 0), Value.null, Value.null] [] (q_mw h am M) Q
  refine xv (x_iconst 4 d_X8_canEnd_3 rfl) ?_
  refine xv (x_istore 6 d_X8_canEnd_4 rfl (Nat.le_of_ble_eq_true rfl)) ?_
  show Xv E q_m_X8_canEnd 6 [Value.ref am, Value.int (zi r), Value.int (zi g), Value.int (zi t), Value.int (zi 0), Value.int (zi 0), Value.null] [] (q_mw h am M) Q
  have L6 : ∀ (n_ : Nat) (a : Int) (k : Int) (x6 : Value), (0 ≤ k) → (k ≤ 4) → (a = 0 ∨ a = 1) → (a = 1 ↔ ∃ w, (0 ≤ w ∧ w < k) ∧ cmE M r g t w) → (4 - k).toNat = n_ → Xv E q_m_X8_canEnd 6 [Value.ref am, Value.int (zi r), Value.int (zi g), Value.int (zi t), Value.int (zi a), Value.int (zi k), x6] [] (q_mw h am M) Q := by
    intro n_
    induction n_ using Nat.strongRecOn with
    | _ n_ ih6 =>
      intro a k x6 k0 k1 a0 ha em
      refine xv (x_iload 8 d_X8_canEnd_6 rfl rfl) ?_
      refine xv (x_iconst 9 d_X8_canEnd_8 rfl) ?_
      refine v_icmp_ge 75 12 d_X8_canEnd_9 rfl rfl (by omega) (by omega) (by omega) (by omega) (fun k9 => ?_) (fun k9 => ?_)
      · refine xv (x_iload 77 d_X8_canEnd_75 rfl rfl) ?_
        refine v_if_eq 96 80 d_X8_canEnd_77 rfl rfl (by omega) (by omega) (fun k77 => ?_) (fun k77 => ?_)
        · refine xv (x_iconst 97 d_X8_canEnd_96 rfl) ?_
          refine xv_r (x_ireturn d_X8_canEnd_97 rfl rfl) ?_
          have ek : k = 4 := by omega
          rw [ek] at ha
          have ev : bI (cnE M r g t) = 0 := bI_f (fun z_ => by first | (have := ha.mpr z_.1; omega) | (have := z_.2; omega))
          exact hQ _ _ ⟨by rw [ev], rfl⟩
        · refine xv (x_aload_n 81 d_X8_canEnd_80 rfl rfl) ?_
          refine xv (x_iload_n 82 d_X8_canEnd_81 rfl rfl) ?_
          refine xv (x_iload_n 83 d_X8_canEnd_82 rfl rfl) ?_
          refine xv (x_iconst 84 d_X8_canEnd_83 rfl) ?_
          refine xv (x_iadd 85 d_X8_canEnd_84 rfl) ?_
          refine xv (x_iload_n 86 d_X8_canEnd_85 rfl rfl) ?_
          refine xv (x_inv1 89 (as := [Value.int (zi g), Value.int (zi (t + 1)), Value.int (zi r)]) d_X8_canEnd_86 rfl c_8_96 rfl (Nat.le_of_ble_eq_true rfl) (Nat.le_of_ble_eq_true rfl) m_o (Nat.le_of_ble_eq_true rfl) (Nat.le_of_ble_eq_true rfl) rfl (S_X8_willBe (E := E) (h := h) (am := am) (M := M) hR (by omega) (by omega) (by omega) (by omega) (by omega) (by omega))) ?_
          have q_2 : wbe (M 1) g (t + 1) r = -1 ∨ (0 ≤ wbe (M 1) g (t + 1) r ∧ wbe (M 1) g (t + 1) r < 0 + (((M 1) 3).toNat : Nat)) :=  @fnd_r (wbA (M 1) g (t + 1) r) ((M 1) 3).toNat 0
          show Xv E q_m_X8_canEnd 89 [Value.ref am, Value.int (zi r), Value.int (zi g), Value.int (zi t), Value.int (zi a), Value.int (zi k), x6] [Value.int (zi (wbe (M 1) g (t + 1) r))] (q_mw h am M) Q
          refine v_if_ge 96 92 d_X8_canEnd_89 rfl rfl (by omega) (by omega) (fun k89 => ?_) (fun k89 => ?_)
          · refine xv (x_iconst 97 d_X8_canEnd_96 rfl) ?_
            refine xv_r (x_ireturn d_X8_canEnd_97 rfl rfl) ?_
            have ek : k = 4 := by omega
            rw [ek] at ha
            have ev : bI (cnE M r g t) = 0 := bI_f (fun z_ => by first | (have := ha.mpr z_.1; omega) | (have := z_.2; omega))
            exact hQ _ _ ⟨by rw [ev], rfl⟩
          · refine xv (x_iconst 93 d_X8_canEnd_92 rfl) ?_
            refine xv (x_goto 97 d_X8_canEnd_93 rfl) ?_
            refine xv_r (x_ireturn d_X8_canEnd_97 rfl rfl) ?_
            have ek : k = 4 := by omega
            rw [ek] at ha
            have ev : bI (cnE M r g t) = 1 := bI_t ⟨ha.mp (by omega), by omega⟩
            exact hQ _ _ ⟨by rw [ev], rfl⟩
      · refine xv (x_aload_n 13 d_X8_canEnd_12 rfl rfl) ?_
        refine xv (x_iload_n 14 d_X8_canEnd_13 rfl rfl) ?_
        refine xv (x_iload 16 d_X8_canEnd_14 rfl rfl) ?_
        refine xv (x_inv1 19 (as := [Value.int (zi g), Value.int (zi k)]) d_X8_canEnd_16 rfl c_8_124 rfl (Nat.le_of_ble_eq_true rfl) (Nat.le_of_ble_eq_true rfl) m_o (Nat.le_of_ble_eq_true rfl) (Nat.le_of_ble_eq_true rfl) rfl (S_X8_beside (E := E) (h := h) (am := am) (M := M) hR (by omega) (by omega) (by omega))) ?_
        have q_3 := bes_r hR (c := g) (w := k) (by omega)
        show Xv E q_m_X8_canEnd 19 [Value.ref am, Value.int (zi r), Value.int (zi g), Value.int (zi t), Value.int (zi a), Value.int (zi k), x6] [Value.int (zi (bes (M 1) g k))] (q_mw h am M) Q
        refine xv (x_istore 21 d_X8_canEnd_19 rfl (Nat.le_of_ble_eq_true rfl)) ?_
        show Xv E q_m_X8_canEnd 21 [Value.ref am, Value.int (zi r), Value.int (zi g), Value.int (zi t), Value.int (zi a), Value.int (zi k), Value.int (zi (bes (M 1) g k))] [] (q_mw h am M) Q
        refine xv (x_iload 23 d_X8_canEnd_21 rfl rfl) ?_
        refine v_if_ne 62 26 d_X8_canEnd_23 rfl rfl (by omega) (by omega) (fun k23 => ?_) (fun k23 => ?_)
        · refine xv (x_iconst 63 d_X8_canEnd_62 rfl) ?_
          refine xv (x_goto 67 d_X8_canEnd_63 rfl) ?_
          refine xv (x_istore 69 d_X8_canEnd_67 rfl (Nat.le_of_ble_eq_true rfl)) ?_
          show Xv E q_m_X8_canEnd 69 [Value.ref am, Value.int (zi r), Value.int (zi g), Value.int (zi t), Value.int (zi 1), Value.int (zi k), Value.int (zi (bes (M 1) g k))] [] (q_mw h am M) Q
          refine xv (x_iinc 72 d_X8_canEnd_69 rfl rfl) ?_
          show Xv E q_m_X8_canEnd 72 [Value.ref am, Value.int (zi r), Value.int (zi g), Value.int (zi t), Value.int (zi 1), Value.int (zi (k + 1)), Value.int (zi (bes (M 1) g k))] [] (q_mw h am M) Q
          refine xv (x_goto 6 d_X8_canEnd_72 rfl) ?_
          refine ih6 _ (by omega) _ (k + 1) _ (by omega) (by omega) (by omega) ?_ rfl
          first
          | exact ⟨fun _ => by obtain ⟨w, h1, h2⟩ := ha.mp (by omega); exact ⟨w, by omega, h2⟩, fun _ => rfl⟩
          | exact ⟨fun _ => ⟨k, by omega, by omega, k45, k59⟩, fun _ => rfl⟩
        · refine xv (x_iload 28 d_X8_canEnd_26 rfl rfl) ?_
          refine v_if_lt 66 31 d_X8_canEnd_28 rfl rfl (by omega) (by omega) (fun k28 => ?_) (fun k28 => ?_)
          · refine xv (x_iconst 67 d_X8_canEnd_66 rfl) ?_
            refine xv (x_istore 69 d_X8_canEnd_67 rfl (Nat.le_of_ble_eq_true rfl)) ?_
            show Xv E q_m_X8_canEnd 69 [Value.ref am, Value.int (zi r), Value.int (zi g), Value.int (zi t), Value.int (zi 0), Value.int (zi k), Value.int (zi (bes (M 1) g k))] [] (q_mw h am M) Q
            refine xv (x_iinc 72 d_X8_canEnd_69 rfl rfl) ?_
            show Xv E q_m_X8_canEnd 72 [Value.ref am, Value.int (zi r), Value.int (zi g), Value.int (zi t), Value.int (zi 0), Value.int (zi (k + 1)), Value.int (zi (bes (M 1) g k))] [] (q_mw h am M) Q
            refine xv (x_goto 6 d_X8_canEnd_72 rfl) ?_
            refine ih6 _ (by omega) _ (k + 1) _ (by omega) (by omega) (by omega) ?_ rfl
            refine ⟨fun e => absurd e (by decide), fun ⟨w, h1, h2⟩ => ?_⟩
            exfalso
            rcases (by omega : w < k ∨ w = k) with z | z
            · have := ha.mpr ⟨w, ⟨h1.1, z⟩, h2⟩
              omega
            · rw [z] at h2
              first | exact absurd h2.1 (by omega) | exact h2.2.1 k45 | exact k59 h2.2.2
          · refine xv (x_aload_n 32 d_X8_canEnd_31 rfl rfl) ?_
            refine xv (x_getfield 35 d_X8_canEnd_32 rfl f_8_22 (Nat.le_of_ble_eq_true rfl) (Nat.le_of_ble_eq_true rfl) (q_gf_of m_o rfl)) ?_
            refine xv (x_bipush 37 d_X8_canEnd_35 rfl rfl) ?_
            refine xv (x_iload_n 38 d_X8_canEnd_37 rfl rfl) ?_
            refine xv (x_iconst 39 d_X8_canEnd_38 rfl) ?_
            refine xv (x_isub 40 d_X8_canEnd_39 rfl) ?_
            refine xv (x_imul 41 d_X8_canEnd_40 rfl) ?_
            refine xv (x_iload 43 d_X8_canEnd_41 rfl rfl) ?_
            refine xv (x_iadd 44 d_X8_canEnd_43 rfl) ?_
            refine xv (x_baload 45 d_X8_canEnd_44 rfl ((m_g5 (by omega) (by omega)).trans (rfl : _ = some (Value.int (zi ((M 5) ((48 * (t - 1)) + (bes (M 1) g k)))))))) ?_
            have q_4 := hB ((48 * (t - 1)) + (bes (M 1) g k)) (by omega) (by omega)
            refine v_if_eq 66 48 d_X8_canEnd_45 rfl rfl (by omega) (by omega) (fun k45 => ?_) (fun k45 => ?_)
            · refine xv (x_iconst 67 d_X8_canEnd_66 rfl) ?_
              refine xv (x_istore 69 d_X8_canEnd_67 rfl (Nat.le_of_ble_eq_true rfl)) ?_
              show Xv E q_m_X8_canEnd 69 [Value.ref am, Value.int (zi r), Value.int (zi g), Value.int (zi t), Value.int (zi 0), Value.int (zi k), Value.int (zi (bes (M 1) g k))] [] (q_mw h am M) Q
              refine xv (x_iinc 72 d_X8_canEnd_69 rfl rfl) ?_
              show Xv E q_m_X8_canEnd 72 [Value.ref am, Value.int (zi r), Value.int (zi g), Value.int (zi t), Value.int (zi 0), Value.int (zi (k + 1)), Value.int (zi (bes (M 1) g k))] [] (q_mw h am M) Q
              refine xv (x_goto 6 d_X8_canEnd_72 rfl) ?_
              refine ih6 _ (by omega) _ (k + 1) _ (by omega) (by omega) (by omega) ?_ rfl
              refine ⟨fun e => absurd e (by decide), fun ⟨w, h1, h2⟩ => ?_⟩
              exfalso
              rcases (by omega : w < k ∨ w = k) with z | z
              · have := ha.mpr ⟨w, ⟨h1.1, z⟩, h2⟩
                omega
              · rw [z] at h2
                first | exact absurd h2.1 (by omega) | exact h2.2.1 k45 | exact k59 h2.2.2
            · refine xv (x_aload_n 49 d_X8_canEnd_48 rfl rfl) ?_
              refine xv (x_iload_n 50 d_X8_canEnd_49 rfl rfl) ?_
              refine xv (x_iload 52 d_X8_canEnd_50 rfl rfl) ?_
              refine xv (x_iload_n 53 d_X8_canEnd_52 rfl rfl) ?_
              refine xv (x_iload_n 54 d_X8_canEnd_53 rfl rfl) ?_
              refine xv (x_iconst 55 d_X8_canEnd_54 rfl) ?_
              refine xv (x_isub 56 d_X8_canEnd_55 rfl) ?_
              refine xv (x_inv1 59 (as := [Value.int (zi r), Value.int (zi (bes (M 1) g k)), Value.int (zi g), Value.int (zi (t - 1))]) d_X8_canEnd_56 rfl c_8_127 rfl (Nat.le_of_ble_eq_true rfl) (Nat.le_of_ble_eq_true rfl) m_o (Nat.le_of_ble_eq_true rfl) (Nat.le_of_ble_eq_true rfl) rfl (S_X8_mayGo (E := E) (h := h) (am := am) (M := M) hR (by omega) (by omega) (by omega) (by omega) (by omega) (by omega) (by omega) (by omega))) ?_
              show Xv E q_m_X8_canEnd 59 [Value.ref am, Value.int (zi r), Value.int (zi g), Value.int (zi t), Value.int (zi a), Value.int (zi k), Value.int (zi (bes (M 1) g k))] [Value.int (zi (bI (mgo (M 1) r (bes (M 1) g k) g (t - 1))))] (q_mw h am M) Q
              refine v_if_eq 66 62 d_X8_canEnd_59 rfl rfl (by have := bI_r (mgo (M 1) r (bes (M 1) g k) g (t - 1)); omega) (by have := bI_r (mgo (M 1) r (bes (M 1) g k) g (t - 1)); omega) (fun k59 => ?_) (fun k59 => ?_)
              · replace k59 := bI_0.mp k59
                refine xv (x_iconst 67 d_X8_canEnd_66 rfl) ?_
                refine xv (x_istore 69 d_X8_canEnd_67 rfl (Nat.le_of_ble_eq_true rfl)) ?_
                show Xv E q_m_X8_canEnd 69 [Value.ref am, Value.int (zi r), Value.int (zi g), Value.int (zi t), Value.int (zi 0), Value.int (zi k), Value.int (zi (bes (M 1) g k))] [] (q_mw h am M) Q
                refine xv (x_iinc 72 d_X8_canEnd_69 rfl rfl) ?_
                show Xv E q_m_X8_canEnd 72 [Value.ref am, Value.int (zi r), Value.int (zi g), Value.int (zi t), Value.int (zi 0), Value.int (zi (k + 1)), Value.int (zi (bes (M 1) g k))] [] (q_mw h am M) Q
                refine xv (x_goto 6 d_X8_canEnd_72 rfl) ?_
                refine ih6 _ (by omega) _ (k + 1) _ (by omega) (by omega) (by omega) ?_ rfl
                refine ⟨fun e => absurd e (by decide), fun ⟨w, h1, h2⟩ => ?_⟩
                exfalso
                rcases (by omega : w < k ∨ w = k) with z | z
                · have := ha.mpr ⟨w, ⟨h1.1, z⟩, h2⟩
                  omega
                · rw [z] at h2
                  first | exact absurd h2.1 (by omega) | exact h2.2.1 k45 | exact k59 h2.2.2
              · replace k59 := bI_n0.mp k59
                refine xv (x_iconst 63 d_X8_canEnd_62 rfl) ?_
                refine xv (x_goto 67 d_X8_canEnd_63 rfl) ?_
                refine xv (x_istore 69 d_X8_canEnd_67 rfl (Nat.le_of_ble_eq_true rfl)) ?_
                show Xv E q_m_X8_canEnd 69 [Value.ref am, Value.int (zi r), Value.int (zi g), Value.int (zi t), Value.int (zi 1), Value.int (zi k), Value.int (zi (bes (M 1) g k))] [] (q_mw h am M) Q
                refine xv (x_iinc 72 d_X8_canEnd_69 rfl rfl) ?_
                show Xv E q_m_X8_canEnd 72 [Value.ref am, Value.int (zi r), Value.int (zi g), Value.int (zi t), Value.int (zi 1), Value.int (zi (k + 1)), Value.int (zi (bes (M 1) g k))] [] (q_mw h am M) Q
                refine xv (x_goto 6 d_X8_canEnd_72 rfl) ?_
                refine ih6 _ (by omega) _ (k + 1) _ (by omega) (by omega) (by omega) ?_ rfl
                first
                | exact ⟨fun _ => by obtain ⟨w, h1, h2⟩ := ha.mp (by omega); exact ⟨w, by omega, h2⟩, fun _ => rfl⟩
                | exact ⟨fun _ => ⟨k, by omega, by omega, k45, k59⟩, fun _ => rfl⟩
  exact L6 _ 0 0 _ (by omega) (by omega) (by omega) ⟨fun e => absurd e (by decide), fun ⟨w, z1, z2⟩ => by omega⟩ rfl
end RX
