/-! readers of both sides answer alike, second (printed by program) -/
/-- a float's or a double's outcome -/
def MtV (xs : List String) (o : Sum String Value) (t : Int) (v : Value) : Prop := match o with
  | .inl e => 1 ≤ t ∧ xs[t.toNat - 1]? = some e
  | .inr u => t = 0 ∧ v = u
section PC
variable {l m : Int → Int} {M : q_Im} {c w r o t a b i x y z ro g fr to T ct n k : Int}
theorem lpI_nn {f : Int → Int → Int} : ∀ (n : Nat) (k x : Int), (∀ i y, k ≤ i → i < k + n → y ≤ f i y) → x ≤ lpI f n k x
  | 0, _, x, _ => Int.le_refl x
  | n + 1, k, x, h => Int.le_trans (h k x (by omega) (by omega)) (lpI_nn n (k + 1) (f k x) fun i y a b => h i y (by omega) (by omega))
theorem op_acc (hS : Sm l (M 1)) (h : Iv (M 1)) (u4 : ct = M 0 4) (u16 : n = M 0 16) : Mt [xIA] (accO l ct n y) (accM M y) := by
  by_cases h0 : y = 0
  · have e1 : accO l ct n y = .inr (l 0) := (if_pos h0)
    have e2 : accM M y = (0, M 1 0) := (Eq.trans (if_neg (by omega)) (if_pos h0))
    rw [e1, e2]
    exact mt_0 (hS.1 0 (by omega) (by omega)).symm
  · have _ := h
    by_cases h1 : y = 1
    · have e1 : accO l ct n y = .inr (l 1) := (Eq.trans (if_neg h0) (if_pos h1))
      have e2 : accM M y = (0, M 1 1) := (Eq.trans (if_neg (by omega)) (Eq.trans (if_neg (by omega)) (if_pos h1)))
      rw [e1, e2]
      exact mt_0 (hS.1 1 (by omega) (by omega)).symm
    · have _ := h
      by_cases h2 : y = 2
      · have e1 : accO l ct n y = .inr (l 3) := (Eq.trans (if_neg h0) (Eq.trans (if_neg h1) (if_pos h2)))
        have e2 : accM M y = (0, M 1 3) := (Eq.trans (if_neg (by omega)) (Eq.trans (if_neg (by omega)) (Eq.trans (if_neg (by omega)) (if_pos h2))))
        rw [e1, e2]
        exact mt_0 (hS.1 3 (by omega) (by omega)).symm
      · have _ := h
        by_cases h3 : y = 3
        · have e1 : accO l ct n y = .inr (l 4) := (Eq.trans (if_neg h0) (Eq.trans (if_neg h1) (Eq.trans (if_neg h2) (if_pos h3))))
          have e2 : accM M y = (0, M 1 4) := (Eq.trans (if_neg (by omega)) (Eq.trans (if_neg (by omega)) (Eq.trans (if_neg (by omega)) (Eq.trans (if_neg (by omega)) (if_pos h3)))))
          rw [e1, e2]
          exact mt_0 (hS.1 4 (by omega) (by omega)).symm
        · have _ := h
          by_cases h4 : y = 4
          · have e1 : accO l ct n y = .inr (oin l 0) := (Eq.trans (if_neg h0) (Eq.trans (if_neg h1) (Eq.trans (if_neg h2) (Eq.trans (if_neg h3) (if_pos h4)))))
            have e2 : accM M y = (0, ovO (M 1) (y - 4)) := (Eq.trans (if_neg (by omega)) (Eq.trans (if_neg (by omega)) (Eq.trans (if_neg (by omega)) (Eq.trans (if_neg (by omega)) (Eq.trans (if_neg (by omega)) (if_pos (by omega)))))))
            rw [e1, e2]
            exact mt_0 (by rw [h4]; exact ((sm_oin hS).trans (iv_oin h (by omega))).symm)
          · have _ := h
            by_cases h5 : y = 5
            · have e1 : accO l ct n y = .inr (oin l 1) := (Eq.trans (if_neg h0) (Eq.trans (if_neg h1) (Eq.trans (if_neg h2) (Eq.trans (if_neg h3) (Eq.trans (if_neg h4) (if_pos h5))))))
              have e2 : accM M y = (0, ovO (M 1) (y - 4)) := (Eq.trans (if_neg (by omega)) (Eq.trans (if_neg (by omega)) (Eq.trans (if_neg (by omega)) (Eq.trans (if_neg (by omega)) (Eq.trans (if_neg (by omega)) (if_pos (by omega)))))))
              rw [e1, e2]
              exact mt_0 (by rw [h5]; exact ((sm_oin hS).trans (iv_oin h (by omega))).symm)
            · have _ := h
              by_cases h6 : y = 6
              · have e1 : accO l ct n y = .inr (oin l 2) := (Eq.trans (if_neg h0) (Eq.trans (if_neg h1) (Eq.trans (if_neg h2) (Eq.trans (if_neg h3) (Eq.trans (if_neg h4) (Eq.trans (if_neg h5) (if_pos h6)))))))
                have e2 : accM M y = (0, ovO (M 1) (y - 4)) := (Eq.trans (if_neg (by omega)) (Eq.trans (if_neg (by omega)) (Eq.trans (if_neg (by omega)) (Eq.trans (if_neg (by omega)) (Eq.trans (if_neg (by omega)) (if_pos (by omega)))))))
                rw [e1, e2]
                exact mt_0 (by rw [h6]; exact ((sm_oin hS).trans (iv_oin h (by omega))).symm)
              · have _ := h
                by_cases h7 : y = 7
                · have e1 : accO l ct n y = .inr (ccl l) := (Eq.trans (if_neg h0) (Eq.trans (if_neg h1) (Eq.trans (if_neg h2) (Eq.trans (if_neg h3) (Eq.trans (if_neg h4) (Eq.trans (if_neg h5) (Eq.trans (if_neg h6) (if_pos h7))))))))
                  have e2 : accM M y = (0, ccl (M 1)) := (Eq.trans (if_neg (by omega)) (Eq.trans (if_neg (by omega)) (Eq.trans (if_neg (by omega)) (Eq.trans (if_neg (by omega)) (Eq.trans (if_neg (by omega)) (Eq.trans (if_neg (by omega)) (if_pos h7)))))))
                  rw [e1, e2]
                  exact mt_0 (sm_ccl hS).symm
                · have _ := h
                  by_cases h8 : y = 8
                  · have e1 : accO l ct n y = .inr (l 2) := (Eq.trans (if_neg h0) (Eq.trans (if_neg h1) (Eq.trans (if_neg h2) (Eq.trans (if_neg h3) (Eq.trans (if_neg h4) (Eq.trans (if_neg h5) (Eq.trans (if_neg h6) (Eq.trans (if_neg h7) (if_pos h8)))))))))
                    have e2 : accM M y = (0, M 1 2) := (Eq.trans (if_neg (by omega)) (Eq.trans (if_neg (by omega)) (Eq.trans (if_neg (by omega)) (Eq.trans (if_neg (by omega)) (Eq.trans (if_neg (by omega)) (Eq.trans (if_neg (by omega)) (Eq.trans (if_neg (by omega)) (if_pos h8))))))))
                    rw [e1, e2]
                    exact mt_0 (hS.1 2 (by omega) (by omega)).symm
                  · have _ := h
                    by_cases h9 : y = 9
                    · have e1 : accO l ct n y = .inr (sts l 5) := (Eq.trans (if_neg h0) (Eq.trans (if_neg h1) (Eq.trans (if_neg h2) (Eq.trans (if_neg h3) (Eq.trans (if_neg h4) (Eq.trans (if_neg h5) (Eq.trans (if_neg h6) (Eq.trans (if_neg h7) (Eq.trans (if_neg h8) (if_pos h9))))))))))
                      have e2 : accM M y = (0, ovR (M 1) 5) := (Eq.trans (if_neg (by omega)) (Eq.trans (if_neg (by omega)) (Eq.trans (if_neg (by omega)) (Eq.trans (if_neg (by omega)) (Eq.trans (if_neg (by omega)) (Eq.trans (if_neg (by omega)) (Eq.trans (if_neg (by omega)) (Eq.trans (if_neg (by omega)) (if_pos h9)))))))))
                      rw [e1, e2]
                      exact mt_0 (sm_sts hS (by omega) (by omega)).symm
                    · have _ := h
                      by_cases h10 : y = 10
                      · have e1 : accO l ct n y = .inr (pks l) := (Eq.trans (if_neg h0) (Eq.trans (if_neg h1) (Eq.trans (if_neg h2) (Eq.trans (if_neg h3) (Eq.trans (if_neg h4) (Eq.trans (if_neg h5) (Eq.trans (if_neg h6) (Eq.trans (if_neg h7) (Eq.trans (if_neg h8) (Eq.trans (if_neg h9) (if_pos h10)))))))))))
                        have e2 : accM M y = (0, ovO (M 1) (-1)) := (Eq.trans (if_neg (by omega)) (Eq.trans (if_neg (by omega)) (Eq.trans (if_neg (by omega)) (Eq.trans (if_neg (by omega)) (Eq.trans (if_neg (by omega)) (Eq.trans (if_neg (by omega)) (Eq.trans (if_neg (by omega)) (Eq.trans (if_neg (by omega)) (Eq.trans (if_neg (by omega)) (if_pos h10))))))))))
                        rw [e1, e2]
                        exact mt_0 ((sm_pks hS).trans pks_ov).symm
                      · have _ := h
                        by_cases h11 : y = 11
                        · have e1 : accO l ct n y = .inr (sts l 1) := (Eq.trans (if_neg h0) (Eq.trans (if_neg h1) (Eq.trans (if_neg h2) (Eq.trans (if_neg h3) (Eq.trans (if_neg h4) (Eq.trans (if_neg h5) (Eq.trans (if_neg h6) (Eq.trans (if_neg h7) (Eq.trans (if_neg h8) (Eq.trans (if_neg h9) (Eq.trans (if_neg h10) (if_pos h11))))))))))))
                          have e2 : accM M y = (0, ovR (M 1) 1) := (Eq.trans (if_neg (by omega)) (Eq.trans (if_neg (by omega)) (Eq.trans (if_neg (by omega)) (Eq.trans (if_neg (by omega)) (Eq.trans (if_neg (by omega)) (Eq.trans (if_neg (by omega)) (Eq.trans (if_neg (by omega)) (Eq.trans (if_neg (by omega)) (Eq.trans (if_neg (by omega)) (Eq.trans (if_neg (by omega)) (if_pos h11)))))))))))
                          rw [e1, e2]
                          exact mt_0 (sm_sts hS (by omega) (by omega)).symm
                        · have _ := h
                          by_cases h12 : y = 12
                          · have e1 : accO l ct n y = .inr (ct) := (Eq.trans (if_neg h0) (Eq.trans (if_neg h1) (Eq.trans (if_neg h2) (Eq.trans (if_neg h3) (Eq.trans (if_neg h4) (Eq.trans (if_neg h5) (Eq.trans (if_neg h6) (Eq.trans (if_neg h7) (Eq.trans (if_neg h8) (Eq.trans (if_neg h9) (Eq.trans (if_neg h10) (Eq.trans (if_neg h11) (if_pos h12)))))))))))))
                            have e2 : accM M y = (0, M 0 4) := (Eq.trans (if_neg (by omega)) (Eq.trans (if_neg (by omega)) (Eq.trans (if_neg (by omega)) (Eq.trans (if_neg (by omega)) (Eq.trans (if_neg (by omega)) (Eq.trans (if_neg (by omega)) (Eq.trans (if_neg (by omega)) (Eq.trans (if_neg (by omega)) (Eq.trans (if_neg (by omega)) (Eq.trans (if_neg (by omega)) (Eq.trans (if_neg (by omega)) (if_pos h12))))))))))))
                            rw [e1, e2]
                            exact mt_0 u4.symm
                          · have _ := h
                            by_cases h13 : y = 13
                            · have e1 : accO l ct n y = .inr (n) := (Eq.trans (if_neg h0) (Eq.trans (if_neg h1) (Eq.trans (if_neg h2) (Eq.trans (if_neg h3) (Eq.trans (if_neg h4) (Eq.trans (if_neg h5) (Eq.trans (if_neg h6) (Eq.trans (if_neg h7) (Eq.trans (if_neg h8) (Eq.trans (if_neg h9) (Eq.trans (if_neg h10) (Eq.trans (if_neg h11) (Eq.trans (if_neg h12) (if_pos h13))))))))))))))
                              have e2 : accM M y = (0, M 0 16) := (Eq.trans (if_neg (by omega)) (Eq.trans (if_neg (by omega)) (Eq.trans (if_neg (by omega)) (Eq.trans (if_neg (by omega)) (Eq.trans (if_neg (by omega)) (Eq.trans (if_neg (by omega)) (Eq.trans (if_neg (by omega)) (Eq.trans (if_neg (by omega)) (Eq.trans (if_neg (by omega)) (Eq.trans (if_neg (by omega)) (Eq.trans (if_neg (by omega)) (Eq.trans (if_neg (by omega)) (if_pos h13)))))))))))))
                              rw [e1, e2]
                              exact mt_0 u16.symm
                            · have _ := h
                              by_cases h14 : y = 14
                              · have e1 : accO l ct n y = .inr (l 5) := (Eq.trans (if_neg h0) (Eq.trans (if_neg h1) (Eq.trans (if_neg h2) (Eq.trans (if_neg h3) (Eq.trans (if_neg h4) (Eq.trans (if_neg h5) (Eq.trans (if_neg h6) (Eq.trans (if_neg h7) (Eq.trans (if_neg h8) (Eq.trans (if_neg h9) (Eq.trans (if_neg h10) (Eq.trans (if_neg h11) (Eq.trans (if_neg h12) (Eq.trans (if_neg h13) (if_pos h14)))))))))))))))
                                have e2 : accM M y = (0, M 1 (5 + y - 14)) := (Eq.trans (if_neg (by omega)) (Eq.trans (if_neg (by omega)) (Eq.trans (if_neg (by omega)) (Eq.trans (if_neg (by omega)) (Eq.trans (if_neg (by omega)) (Eq.trans (if_neg (by omega)) (Eq.trans (if_neg (by omega)) (Eq.trans (if_neg (by omega)) (Eq.trans (if_neg (by omega)) (Eq.trans (if_neg (by omega)) (Eq.trans (if_neg (by omega)) (Eq.trans (if_neg (by omega)) (if_neg (by omega))))))))))))))
                                rw [e1, e2]
                                exact mt_0 (by rw [h14]; exact (hS.1 5 (by omega) (by omega)).symm)
                              · have _ := h
                                by_cases h15 : y = 15
                                · have e1 : accO l ct n y = .inr (l 6) := (Eq.trans (if_neg h0) (Eq.trans (if_neg h1) (Eq.trans (if_neg h2) (Eq.trans (if_neg h3) (Eq.trans (if_neg h4) (Eq.trans (if_neg h5) (Eq.trans (if_neg h6) (Eq.trans (if_neg h7) (Eq.trans (if_neg h8) (Eq.trans (if_neg h9) (Eq.trans (if_neg h10) (Eq.trans (if_neg h11) (Eq.trans (if_neg h12) (Eq.trans (if_neg h13) (Eq.trans (if_neg h14) (if_pos h15))))))))))))))))
                                  have e2 : accM M y = (0, M 1 (5 + y - 14)) := (Eq.trans (if_neg (by omega)) (Eq.trans (if_neg (by omega)) (Eq.trans (if_neg (by omega)) (Eq.trans (if_neg (by omega)) (Eq.trans (if_neg (by omega)) (Eq.trans (if_neg (by omega)) (Eq.trans (if_neg (by omega)) (Eq.trans (if_neg (by omega)) (Eq.trans (if_neg (by omega)) (Eq.trans (if_neg (by omega)) (Eq.trans (if_neg (by omega)) (Eq.trans (if_neg (by omega)) (if_neg (by omega))))))))))))))
                                  rw [e1, e2]
                                  exact mt_0 (by rw [h15]; exact (hS.1 6 (by omega) (by omega)).symm)
                                · have _ := h
                                  by_cases h16 : y = 16
                                  · have e1 : accO l ct n y = .inr (l 7) := (Eq.trans (if_neg h0) (Eq.trans (if_neg h1) (Eq.trans (if_neg h2) (Eq.trans (if_neg h3) (Eq.trans (if_neg h4) (Eq.trans (if_neg h5) (Eq.trans (if_neg h6) (Eq.trans (if_neg h7) (Eq.trans (if_neg h8) (Eq.trans (if_neg h9) (Eq.trans (if_neg h10) (Eq.trans (if_neg h11) (Eq.trans (if_neg h12) (Eq.trans (if_neg h13) (Eq.trans (if_neg h14) (Eq.trans (if_neg h15) (if_pos h16)))))))))))))))))
                                    have e2 : accM M y = (0, M 1 (5 + y - 14)) := (Eq.trans (if_neg (by omega)) (Eq.trans (if_neg (by omega)) (Eq.trans (if_neg (by omega)) (Eq.trans (if_neg (by omega)) (Eq.trans (if_neg (by omega)) (Eq.trans (if_neg (by omega)) (Eq.trans (if_neg (by omega)) (Eq.trans (if_neg (by omega)) (Eq.trans (if_neg (by omega)) (Eq.trans (if_neg (by omega)) (Eq.trans (if_neg (by omega)) (Eq.trans (if_neg (by omega)) (if_neg (by omega))))))))))))))
                                    rw [e1, e2]
                                    exact mt_0 (by rw [h16]; exact (hS.1 7 (by omega) (by omega)).symm)
                                  · have _ := h
                                    have e1 : accO l ct n y = .inl xIA := (Eq.trans (if_neg h0) (Eq.trans (if_neg h1) (Eq.trans (if_neg h2) (Eq.trans (if_neg h3) (Eq.trans (if_neg h4) (Eq.trans (if_neg h5) (Eq.trans (if_neg h6) (Eq.trans (if_neg h7) (Eq.trans (if_neg h8) (Eq.trans (if_neg h9) (Eq.trans (if_neg h10) (Eq.trans (if_neg h11) (Eq.trans (if_neg h12) (Eq.trans (if_neg h13) (Eq.trans (if_neg h14) (Eq.trans (if_neg h15) (if_neg h16)))))))))))))))))
                                    have e2 : accM M y = (1, 0) := (if_pos (by omega))
                                    rw [e1, e2]
                                    exact mt_1
theorem ldn_ml (h : Iv m) : ldn m = mld m := by
  unfold ldn mld
  have g3 := (iv_c h).2.2.2.1
  exact lpI_cg fun i y a b => by rw [bI_c (iv_ldd h ⟨a, by omega⟩)]
theorem op_ldd (hS : Sm l m) (h : Iv m) : MtV [xAE] (ldO l) (ldM m).1 (.float (ldM m).2) := by
  have hR := iv_c h
  have g3 := hR.2.2.2.1
  by_cases z : m 3 = 0
  · have e1 : ldO l = .inl xAE := if_pos (by rw [sm_3 hS]; omega)
    have e2 : ldM m = (1, FP.fconst0) := if_pos z
    rw [e1, e2]
    exact ⟨by show (1 : Int) ≤ 1; omega, rfl⟩
  · have e1 : ldO l = .inr (.float (FP.fdiv (FP.i2f (zi (ldn l))) (FP.i2f (zi (l 3))))) := if_neg (by rw [sm_3 hS]; omega)
    have e2 : ldM m = (0, FP.fdiv (FP.i2f (zi (mld m))) (FP.i2f (zi (m 3)))) := if_neg z
    rw [e1, e2, sm_3 hS, sm_ldn hS hR, ldn_ml h]
    exact ⟨rfl, rfl⟩
theorem oin_ml (h : Iv m) : oin m 2 = mlc m := by
  unfold oin mlc
  have g4 := (iv_c h).2.2.2.2.1
  refine lpI_cg fun i y a b => ?_
  show y + bI (stc m i = 2) = if sto m i = 2 then y + 1 else y
  rw [iv_stc h ⟨a, by omega⟩]
  by_cases z : sto m i = 2
  · rw [bI_t z, if_pos z]
  · rw [bI_f z, if_neg z, Int.add_zero]
theorem lts_ml (h : Iv m) : lts m = mls m := by
  unfold lts mls
  have g4 := (iv_c h).2.2.2.2.1
  refine lpI_cg fun i y a b => ?_
  have hO := (rgc_o (iv_c h) (show isO m i from ⟨a, by omega⟩)).2.2.2.1
  have hs : sto m i = 2 ↔ ¬ ob m i 4 = -1 := by
    unfold sto
    by_cases u : 0 ≤ ob m i 4
    · rw [if_pos u]; exact ⟨fun _ => by omega, fun _ => rfl⟩
    · rw [if_neg u]
      refine ⟨fun e => ?_, fun e => by omega⟩
      split at e <;> omega
  show y + (if ¬ ob m i 4 = -1 then ob m i 4 - ob m i 0 else 0) = if sto m i = 2 then y + (ob m i 4 - ob m i 0) else y
  by_cases z : sto m i = 2
  · rw [if_pos z, if_pos (hs.mp z)]
  · rw [if_neg z, if_neg (fun u => z (hs.mpr u)), Int.add_zero]
theorem op_lat (hS : Sm l m) (h : Iv m) : MtV [xAE] (ltO l) (ltM m).1 (.double (ltM m).2) := by
  have hR := iv_c h
  have hn : 0 ≤ mlc m := by
    unfold mlc
    exact lpI_nn _ _ _ fun i y a b => by
      show y ≤ if sto m i = 2 then y + 1 else y
      split <;> omega
  have eo : oin l 2 = mlc m := (sm_oin hS).trans (oin_ml h)
  have el : lts l = mls m := (sm_lts hS).trans (lts_ml h)
  by_cases z : mlc m = 0
  · have e1 : ltO l = .inl xAE := if_pos (by rw [eo]; omega)
    have e2 : ltM m = (1, FP.dconst0) := if_pos z
    rw [e1, e2]
    exact ⟨by show (1 : Int) ≤ 1; omega, rfl⟩
  · have e1 : ltO l = .inr (.double (FP.ddiv (FP.i2d (zi (lts l))) (FP.i2d (zi (oin l 2))))) := if_neg (by rw [eo]; omega)
    have e2 : ltM m = (0, FP.ddiv (FP.i2d (zi (mls m))) (FP.i2d (zi (mlc m)))) := if_neg z
    rw [e1, e2, eo, el]
    exact ⟨rfl, rfl⟩
/-- the starting cell alone has distance 0 -/
abbrev FZ (a : Int) (X : BX) : Prop := X.1 a = 0 ∧ ∀ j, X.1 j = 0 → j = a
theorem bfw_fz {X : BX} (h : FZ a X) (hc : 0 ≤ X.1 c) : FZ a (bfw m c w X) ∧ 0 ≤ (bfw m c w X).1 c := by
  by_cases q : bfC m c w X
  · rw [bfw_t q]
    refine ⟨⟨?_, fun j hj => ?_⟩, ?_⟩
    · show u1 X.1 (bes m c w) (X.1 c + 1) a = 0
      rw [u1_ne (fun e => by have h1 := h.1; rw [e] at h1; have := q.2.1; omega)]
      exact h.1
    · have hj : u1 X.1 (bes m c w) (X.1 c + 1) j = 0 := hj
      by_cases e : j = bes m c w
      · rw [e, u1_eq] at hj; omega
      · rw [u1_ne e] at hj; exact h.2 j hj
    · show 0 ≤ u1 X.1 (bes m c w) (X.1 c + 1) c
      by_cases e : c = bes m c w
      · rw [← e, u1_eq]; omega
      · rw [u1_ne e]; exact hc
  · rw [bfw_f q]; exact ⟨h, hc⟩
theorem bfr_fz : ∀ (n : Nat) (w : Int) (X : BX), FZ a X → 0 ≤ X.1 c → FZ a (bfr m c n w X)
  | 0, _, _, h, _ => h
  | n + 1, w, X, h, hc => bfr_fz n (w + 1) _ (bfw_fz h hc).1 (bfw_fz h hc).2
theorem bfl_fz (hR : RgC m) : ∀ (n : Nat) (k : Int) (X : BX), 0 ≤ k → Binv m X → FZ a X → FZ a (bfl m n k X)
  | 0, _, _, _, _, h => h
  | n + 1, k, X, h0, hB, h => by
    show FZ a (if k < X.2.2 then bfl m n (k + 1) (bfr m (X.2.1 k) 4 0 X) else X)
    by_cases z : k < X.2.2
    · rw [if_pos z]
      have hq := hB.2.1 k h0 z
      exact bfl_fz hR n (k + 1) _ (by omega) (bfr_ok (fun w => besC_r (w := w) hR hq.1) h0 4 0 X hB z rfl).1 (bfr_fz 4 0 X h hq.2.1)
    · rw [if_neg z]; exact h
theorem far_z (hR : RgC m) (ha : isC m a) : far m a a = 0 ∧ ∀ j, far m a j = 0 → j = a := by
  have : FZ a (bfl m 48 0 (bf0 a)) := bfl_fz hR 48 0 (bf0 a) (by omega) (bf0_ok ha) ⟨if_pos rfl, fun j hj => by
    have hj : (if j = a then (0 : Int) else -1) = 0 := hj
    by_cases e : j = a
    · exact e
    · rw [if_neg e] at hj; omega⟩
  exact this
/-- the farthest cell, the lowest of several -/
abbrev IsF (m : Int → Int) (a b : Int) : Prop := isC m b ∧ (∀ k, isC m k → far m a k ≤ far m a b) ∧ ∀ k, 0 ≤ k → k < b → far m a k < far m a b
theorem isF_u {b' : Int} (h : IsF m a b) (h' : IsF m a b') : b = b' := by
  rcases Int.lt_trichotomy b b' with z | z | z
  · have h1 := h'.2.2 b h.1.1 z
    have h2 := h.2.1 b' h'.1
    omega
  · exact z
  · have h1 := h.2.2 b' h'.1.1 z
    have h2 := h'.2.1 b h.1
    omega
theorem frt_l (hR : RgC m) (ha : isC m a) : ∀ (n : Nat) (k b : Int), 0 ≤ k → k + n = 48 → isC m b → ((b = a ∧ ∀ j, 0 ≤ j → j < k → far m a j ≤ 0) ∨ (0 < far m a b ∧ (∀ j, 0 ≤ j → j < k → far m a j ≤ far m a b) ∧ ∀ j, 0 ≤ j → j < b → far m a j < far m a b)) → IsF m a (lpI (fun k b => if frs m a b < far m a k then k else b) n k b)
  | 0, k, b, h0, h1, hb, h => by
    have gc := hR.2.2.2.2.2.1
    have hz := far_z hR ha
    show IsF m a b
    rcases h with ⟨e, h⟩ | ⟨e1, e2, e3⟩
    · rw [e]
      refine ⟨ha, fun k hk => ?_, fun k hk hl => ?_⟩
      · rw [hz.1]; exact h k hk.1 (by have := hk.2; omega)
      · rw [hz.1]
        have h1 := h k hk (by have := ha.2; omega)
        have h2 := hz.2 k
        omega
    · exact ⟨hb, fun k hk => e2 k hk.1 (by have := hk.2; omega), e3⟩
  | n + 1, k, b, h0, h1, hb, h => by
    have hz := far_z hR ha
    have hf := far_r hR ha k
    show IsF m a (lpI (fun k b => if frs m a b < far m a k then k else b) n (k + 1) (if frs m a b < far m a k then k else b))
    have efr : frs m a b = far m a b := if_pos hb
    rw [efr]
    by_cases z : far m a b < far m a k
    · rw [if_pos z]
      have hk : isC m k := by
        refine hf.2 ?_
        rcases h with ⟨e, _⟩ | ⟨e, _⟩
        · rw [e, hz.1] at z; omega
        · omega
      refine frt_l hR ha n (k + 1) k (by omega) (by omega) hk (.inr ?_)
      rcases h with ⟨e, h⟩ | ⟨e1, e2, e3⟩
      · rw [e, hz.1] at z
        refine ⟨z, fun j a_ b_ => ?_, fun j a_ b_ => ?_⟩
        · by_cases q : j = k
          · rw [q]; exact Int.le_refl _
          · have := h j a_ (by omega); omega
        · have := h j a_ b_; omega
      · refine ⟨by omega, fun j a_ b_ => ?_, fun j a_ b_ => ?_⟩
        · by_cases q : j = k
          · rw [q]; exact Int.le_refl _
          · have := e2 j a_ (by omega); omega
        · have := e2 j a_ b_; omega
    · rw [if_neg z]
      refine frt_l hR ha n (k + 1) b (by omega) (by omega) hb ?_
      rcases h with ⟨e, h⟩ | ⟨e1, e2, e3⟩
      · refine .inl ⟨e, fun j a_ b_ => ?_⟩
        by_cases q : j = k
        · rw [q]; rw [e, hz.1] at z; omega
        · exact h j a_ (by omega)
      · refine .inr ⟨e1, fun j a_ b_ => ?_, e3⟩
        by_cases q : j = k
        · rw [q]; omega
        · exact e2 j a_ (by omega)
theorem frD_l : ∀ (n : Nat) (b : Int), (n : Int) ≤ cs m → isC m b → (∀ j, (n : Int) ≤ j → j < cs m → far m a j ≤ far m a b) → (∀ j, (n : Int) ≤ j → j < b → far m a j < far m a b) → IsF m a (frD m a n b)
  | 0, b, _, hb, h1, h2 => ⟨hb, fun k hk => h1 k (by have := hk.1; omega) hk.2, fun k hk hl => h2 k (by omega) hl⟩
  | n + 1, b, hn, hb, h1, h2 => by
    show IsF m a (frD m a n (if far m a b ≤ far m a (n : Nat) then (n : Nat) else b))
    by_cases z : far m a b ≤ far m a (n : Nat)
    · rw [if_pos z]
      refine frD_l n _ (by omega) ⟨by omega, by omega⟩ (fun j a_ b_ => ?_) (fun j a_ b_ => by omega)
      by_cases q : j = (n : Nat)
      · rw [q]; exact Int.le_refl _
      · have := h1 j (by omega) b_; omega
    · rw [if_neg z]
      refine frD_l n b (by omega) hb (fun j a_ b_ => ?_) (fun j a_ b_ => ?_)
      · by_cases q : j = (n : Nat)
        · rw [q]; omega
        · exact h1 j (by omega) b_
      · by_cases q : j = (n : Nat)
        · rw [q]; omega
        · exact h2 j (by omega) b_
theorem frt_fr (hR : RgC m) (ha : isC m a) : frt m a = frD m a (cs m).toNat a := by
  have gc := hR.2.2.2.2.2.1
  refine isF_u (frt_l hR ha 48 0 a (by omega) (by omega) ha (.inl ⟨rfl, fun j a_ b_ => by omega⟩)) (frD_l _ _ (by omega) ha (fun j a_ b_ => by omega) (fun j a_ b_ => by have := ha.2; omega))
theorem op_frt (hS : Sm l m) (h : Iv m) : Mt [xIO] (frt0 l y) (frtM m y) := by
  have hR := iv_c h
  by_cases hc : isC m y
  · have e1 : frt0 l y = .inr (frt l y) := if_neg (fun x => x ((sm_C hS).mpr hc))
    have e2 : frtM m y = (0, frD m y (cs m).toNat y) := if_neg (fun x => x hc)
    rw [e1, e2]
    exact mt_0 ((sm_frt hS hR hc).trans (frt_fr hR hc)).symm
  · have e1 : frt0 l y = .inl xIO := if_pos (fun x => hc ((sm_C hS).mp x))
    have e2 : frtM m y = (1, 0) := if_pos hc
    rw [e1, e2]
    exact mt_1
theorem brf_su (hR : RgC m) : ∀ (n : Nat) (k b x x' : Int), 0 ≤ k → k + n = m 3 → (b = -1 ∨ (isR m b ∧ x = x')) → brf m g n k b x = suD m g n k b x' ∧ (brf m g n k b x = -1 ∨ isR m (brf m g n k b x))
  | 0, _, b, _, _, _, _, hb => ⟨rfl, by
    show b = -1 ∨ isR m b
    rcases hb with e | e
    · exact .inl e
    · exact .inr e.1⟩
  | n + 1, k, b, x, x', h0, h1, hb => by
    have hk : isR m k := ⟨h0, by omega⟩
    have hq := rgc_r hR hk
    have hf := (far_r hR hq.1 g).1
    have hc : brC m g k b x ↔ suC m g k b x' := by
      unfold brC suC btr
      rcases hb with e | ⟨e, e2⟩
      · rw [e]; omega
      · rw [e2]; have := e.1; omega
    show (if brC m g k b x then brf m g n (k + 1) k (far m (rb m k 0) g) else brf m g n (k + 1) b x) = (if suC m g k b x' then suD m g n (k + 1) k (far m (rb m k 0) g) else suD m g n (k + 1) b x') ∧ ((if brC m g k b x then brf m g n (k + 1) k (far m (rb m k 0) g) else brf m g n (k + 1) b x) = -1 ∨ isR m (if brC m g k b x then brf m g n (k + 1) k (far m (rb m k 0) g) else brf m g n (k + 1) b x))
    by_cases z : suC m g k b x'
    · rw [if_pos z, if_pos (hc.mpr z)]
      exact brf_su hR n (k + 1) k _ _ (by omega) (by omega) (.inr ⟨hk, rfl⟩)
    · rw [if_neg z, if_neg (fun u => z (hc.mp u))]
      exact brf_su hR n (k + 1) b x x' (by omega) (by omega) hb
theorem op_sui (hS : Sm l m) (h : Iv m) : Mt [xIO, xNS] (suiO l y) (suiM m y) := by
  have hR := iv_c h
  have g3 := hR.2.2.2.1
  by_cases hc : isO m y
  · have e1 : suiO l y = if suiV l y = -1 then .inl xNS else .inr (suiV l y) := if_neg (fun x => x ((sm_O hS).mpr hc))
    have e2 : suiM m y = if suW m y < 0 then (2, 0) else (0, suW m y) := if_neg (fun x => x hc)
    obtain ⟨q1, q2⟩ := brf_su (g := ob m y 5) hR (m 3).toNat 0 (-1) (-1) 0 (by omega) (by omega) (.inl rfl)
    have e3 : suiV m y = suW m y := q1
    have q2 : suiV m y = -1 ∨ isR m (suiV m y) := q2
    rw [e1, e2, sm_suiV hS hR hc]
    rw [e3] at q2 ⊢
    by_cases z : suW m y = -1
    · rw [if_pos z, if_pos (show suW m y < 0 by omega)]; exact mt_2
    · rw [if_neg z, if_neg (show ¬ suW m y < 0 by omega)]; exact mt_0 rfl
  · have e1 : suiO l y = .inl xIO := if_pos (fun x => hc ((sm_O hS).mp x))
    have e2 : suiM m y = (1, 0) := if_pos hc
    rw [e1, e2]
    exact mt_1
theorem lpI_cg2 {f f' : Int → Int → Int} {I : Int → Prop} : ∀ {n : Nat} {k x : Int}, I x → (∀ i y, k ≤ i → i < k + n → I y → f i y = f' i y ∧ I (f i y)) → lpI f n k x = lpI f' n k x ∧ I (lpI f n k x)
  | 0, _, _, h, _ => ⟨rfl, h⟩
  | n + 1, k, x, hx, h => by
    obtain ⟨e1, e2⟩ := h k x (by omega) (by omega) hx
    show lpI f n (k + 1) (f k x) = lpI f' n (k + 1) (f' k x) ∧ I (lpI f n (k + 1) (f k x))
    rw [← e1]
    exact lpI_cg2 e2 fun i y a b => h i y (by omega) (by omega)
theorem nst_nr (hR : RgC m) (ha : isC m a) : nst m a = nrD m a ∧ -1 ≤ nst m a := by
  unfold nst nrD
  refine lpI_cg2 (I := fun x => -1 ≤ x) (by omega) fun i y a_ b_ hy => ?_
  have hf := (far_r hR ha i).1
  have hc : (m (8 + i) = 3 ∧ ¬ far m a i = -1 ∧ (y = -1 ∨ far m a i < y)) ↔ ((m (8 + i) = 3 ∧ 0 ≤ far m a i) ∧ (y < 0 ∨ far m a i < y)) := by omega
  unfold nrF
  by_cases z : (m (8 + i) = 3 ∧ 0 ≤ far m a i) ∧ (y < 0 ∨ far m a i < y)
  · rw [if_pos z, if_pos (hc.mpr z)]
    exact ⟨rfl, hf.1⟩
  · rw [if_neg z, if_neg (fun u => z (hc.mp u))]
    exact ⟨rfl, hy⟩
theorem trD_0 : ∀ (n : Nat) (k a b : Int), (trD m o n k a b 0).2.2 = 0
  | 0, _, _, _ => rfl
  | n + 1, k, a, b => by
    show (trD m o n (k + 1) _ _ (if ¬ (0 : Int) = 0 ∧ 0 ≤ far m b (ob m o (5 + k)) then 1 else 0)).2.2 = 0
    rw [if_neg (show ¬ (¬ (0 : Int) = 0 ∧ 0 ≤ far m b (ob m o (5 + k))) from fun u => u.1 rfl)]
    exact trD_0 n (k + 1) _ _
theorem thr_tr (hR : RgC m) (ho : isO m o) : ∀ (n : Nat) (i a b : Int), 0 ≤ i → i + n = ob m o 1 → isC m b → 0 ≤ a → (if ¬ (trD m o n i a b 1).2.2 = 0 ∧ 0 ≤ nrD m (trD m o n i a b 1).2.1 then thr m (ob m o) n i b a = (trD m o n i a b 1).1 + nrD m (trD m o n i a b 1).2.1 ∧ 0 ≤ thr m (ob m o) n i b a else thr m (ob m o) n i b a = -1)
  | 0, i, a, b, _, _, hb, h2 => by
    obtain ⟨e, e2⟩ := nst_nr hR hb
    show if ¬ (1 : Int) = 0 ∧ 0 ≤ nrD m b then (if nst m b = -1 then -1 else a + nst m b) = a + nrD m b ∧ 0 ≤ (if nst m b = -1 then -1 else a + nst m b) else (if nst m b = -1 then -1 else a + nst m b) = -1
    rw [e] at e2 ⊢
    by_cases z : 0 ≤ nrD m b
    · rw [if_pos ⟨by decide, z⟩, if_neg (show ¬ nrD m b = -1 by omega)]
      exact ⟨rfl, by omega⟩
    · rw [if_neg (fun u => z u.2), if_pos (show nrD m b = -1 by omega)]
  | n + 1, i, a, b, h0, h1, hb, h2 => by
    obtain ⟨q0, q1, q2, q4, q5, q6⟩ := rgc_o hR ho
    have hl := q6 i h0 (by omega)
    have hl2 := q5 i h0 (by omega)
    have hf := (far_r hR hb (ob m o (5 + i))).1
    by_cases z : far m b (ob m o (5 + i)) = -1
    · have e1 : trD m o (n + 1) i a b 1 = trD m o n (i + 1) (a + far m b (ob m o (5 + i))) (ob m o (5 + i)) 0 := by
        show trD m o n (i + 1) _ _ (if ¬ (1 : Int) = 0 ∧ 0 ≤ far m b (ob m o (5 + i)) then 1 else 0) = _
        rw [if_neg (show ¬ (¬ (1 : Int) = 0 ∧ 0 ≤ far m b (ob m o (5 + i))) by omega)]
      rw [e1, if_neg (fun u => u.1 (trD_0 _ _ _ _))]
      show (if far m b (ob m o (5 + i)) = -1 then -1 else thr m (ob m o) n (i + 1) (ob m o (5 + i)) (a + far m b (ob m o (5 + i)))) = -1
      rw [if_pos z]
    · have e1 : trD m o (n + 1) i a b 1 = trD m o n (i + 1) (a + far m b (ob m o (5 + i))) (ob m o (5 + i)) 1 := by
        show trD m o n (i + 1) _ _ (if ¬ (1 : Int) = 0 ∧ 0 ≤ far m b (ob m o (5 + i)) then 1 else 0) = _
        rw [if_pos (show ¬ (1 : Int) = 0 ∧ 0 ≤ far m b (ob m o (5 + i)) by omega)]
      have e2 : thr m (ob m o) (n + 1) i b a = thr m (ob m o) n (i + 1) (ob m o (5 + i)) (a + far m b (ob m o (5 + i))) := if_neg z
      rw [e1, e2]
      exact thr_tr hR ho n (i + 1) _ _ (by omega) (by omega) ⟨hl, hl2.2⟩ (by omega)
theorem op_tou (hS : Sm l m) (h : Iv m) : Mt [xIO, xNS] (touO l y) (touM m y) := by
  have hR := iv_c h
  by_cases hc : isO m y
  · obtain ⟨q0, q1, q2, q4, q5, q6⟩ := rgc_o hR hc
    have hl := q6 0 (by omega) (by omega)
    have hl2 := q5 0 (by omega) (by omega)
    have e1 : touO l y = if touV l y = -1 then .inl xNS else .inr (touV l y) := if_neg (fun x => x ((sm_O hS).mpr hc))
    have e2 : touM m y = if ¬ (trW m y).2.2 = 0 ∧ 0 ≤ nrD m (trW m y).2.1 then (0, (trW m y).1 + nrD m (trW m y).2.1) else (2, 0) := if_neg (fun x => x hc)
    have hm := thr_tr hR hc (ob m y 1 - 1).toNat 1 0 (ob m y 5) (by omega) (by omega) ⟨hl, hl2.2⟩ (by omega)
    have e3 : touV m y = thr m (ob m y) (ob m y 1 - 1).toNat 1 (ob m y 5) 0 := rfl
    have e4 : trW m y = trD m y (ob m y 1 - 1).toNat 1 0 (ob m y 5) 1 := rfl
    rw [← e3, ← e4] at hm
    rw [e1, e2, sm_touV hS hR hc]
    by_cases z : ¬ (trW m y).2.2 = 0 ∧ 0 ≤ nrD m (trW m y).2.1
    · rw [if_pos z] at hm ⊢
      rw [if_neg (show ¬ touV m y = -1 by omega)]
      exact mt_0 hm.1.symm
    · rw [if_neg z] at hm ⊢
      rw [if_pos hm]
      exact mt_2
  · have e1 : touO l y = .inl xIO := if_pos (fun x => hc ((sm_O hS).mp x))
    have e2 : touM m y = (1, 0) := if_pos hc
    rw [e1, e2]
    exact mt_1
end PC
