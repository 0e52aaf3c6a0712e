/-! the reference: close, open, assign (printed by program) -/
section RP
variable {E : q_E} {h : q_H} {am : Nat} {M M2 : q_Im} {l : Int → Int}
theorem rgc_of (hR : Rg l) (hT : 0 ≤ l 2) : RgC l := by
  obtain ⟨hr, g0, g1, g3, g4, gc, g5, g6, g7, gk, gl, gr, go⟩ := hR
  have := hr 2
  exact ⟨g0, g1, ⟨hT, this.2⟩, g3, g4, gc, g5, g6, g7, gk, gl, gr, fun o a b => (go o a b).1⟩
theorem rg_of (hr : ∀ k, -1000000 ≤ l k ∧ l k ≤ 1000000) (hR : RgC l) (hB : ∀ o, 0 ≤ o → o < l 4 → -1 ≤ ob l o 3 ∧ ob l o 3 < l 3) : Rg l := by
  obtain ⟨g0, g1, g2, g3, g4, gc, g5, g6, g7, gk, gl, gr, go⟩ := hR
  exact ⟨hr, g0, g1, g3, g4, gc, g5, g6, g7, gk, gl, gr, fun o a b => ⟨go o a b, hB o a b⟩⟩
theorem u1_r {k v : Int} (hr : ∀ k, -1000000 ≤ l k ∧ l k ≤ 1000000) (hv : -1000000 ≤ v ∧ v ≤ 1000000) (i : Int) : -1000000 ≤ u1 l k v i ∧ u1 l k v i ≤ 1000000 := by
  by_cases q : i = k
  · rw [q, u1_eq]; exact hv
  · rw [u1_ne q]; exact hr i
theorem rg_u {k v : Int} (hR : Rg l) (hk : 4 < k ∧ k < 320) (hv : -1000000 ≤ v ∧ v ≤ 1000000) (hC : RgC (u1 l k v)) : Rg (u1 l k v) := by
  obtain ⟨hr, g0, g1, g3, g4, gc, g5, g6, g7, gk, gl, gr, go⟩ := hR
  refine rg_of (u1_r hr hv) hC fun o a b => ?_
  rw [u1_ne (by omega)] at b
  rw [show ob (u1 l k v) o 3 = ob l o 3 from u1_ne (i := 320 + 8 * o + 3) (by omega), u1_ne (by omega)]
  exact (go o a b).2
theorem rg_by {o v : Int} (hR : Rg l) (hT : 0 ≤ l 2) (ho : isO l o) (hv : -1 ≤ v ∧ v < l 3) : Rg (u1 l (320 + 8 * o + 3) v) := by
  have hC := rgc_of hR hT
  obtain ⟨hr, g0, g1, g3, g4, gc, g5, g6, g7, gk, gl, gr, go⟩ := hR
  have hO := (go o ho.1 ho.2).1
  have hC2 : RgC (u1 l (320 + 8 * o + 3) v) := by
    rw [← oset_u (l := l) (o := o) (v := v) (k := 3) (by omega) (by omega)]
    obtain ⟨q0, q1, q2, q4, q5, q6⟩ := hO
    exact rgc_oset hC ho ⟨q0, q1, q2, q4, fun t a b => by rw [u1_ne (by omega)]; exact q5 t a b, fun t a b => by rw [u1_ne (by omega)]; exact q6 t a b⟩
  refine rg_of (u1_r hr (by omega)) hC2 fun o' a b => ?_
  rw [u1_ne (by omega)] at b
  rw [u1_ne (i := 3) (by omega)]
  by_cases q : o' = o
  · subst q
    rw [show ob (u1 l (320 + 8 * o' + 3) v) o' 3 = v from u1_eq]
    exact hv
  · rw [show ob (u1 l (320 + 8 * o + 3) v) o' 3 = ob l o' 3 from u1_ne (i := 320 + 8 * o' + 3) (by omega)]
    exact (go o' a b).2
theorem rg_has {r v : Int} (hR : Rg l) (hT : 0 ≤ l 2) (h1 : isR l r) (hv : -1 ≤ v ∧ v < l 4) : Rg (u1 l (104 + 36 * r + 2) v) := by
  have hC := rgc_of hR hT
  have g4 := hR.2.2.2.2.1
  have g3 := hR.2.2.2.1
  have hf := hC.2.2.2.2.2.2.2.2.2.2.2.1 r h1.1 h1.2
  refine rg_u hR (by omega) (by omega) ?_
  rw [← rset_u (l := l) (r := r) (v := v) (k := 2) (by omega) (by omega)]
  obtain ⟨q0, q1, q2, q3, q4, q5, q6⟩ := hf
  refine rgc_rset hC h1 ⟨q0, q1, ?_, q3, q4, q5, fun t a b => ?_⟩
  · rw [u1_eq]; exact hv
  · rw [u1_ne (by omega)]
    exact q6 t a b
noncomputable def mClo (l : Int → Int) (c : Int) : Int × Int := if ¬ isC l c then (1, 0) else if l (56 + c) = 1 then (13, 0) else if l (8 + c) = 1 then (4, c) else if 0 ≤ wbe l c 0 (-1) then (5, wbe l c 0 (-1)) else (0, 0)
def rClo (l : Int → Int) (c : Int) : Int → Int := u1 l (56 + c) 1
noncomputable def mOpn (l : Int → Int) (c : Int) : Int × Int := if ¬ isC l c then (1, 0) else if l (56 + c) = 0 then (13, 0) else (0, 0)
def rOpn (l : Int → Int) (c : Int) : Int → Int := u1 l (56 + c) 0
noncomputable def mAsg (l : Int → Int) (r o : Int) : Int × Int := if ¬ (isR l r ∧ isO l o) then (1, 0) else if 0 ≤ rb l r 2 then (7, rb l r 2) else if ¬ sto l o = 0 then (8, sto l o) else (0, 0)
def rAsg (l : Int → Int) (r o : Int) : Int → Int := u1 (u1 l (104 + 36 * r + 2) o) (320 + 8 * o + 3) r
end RP
