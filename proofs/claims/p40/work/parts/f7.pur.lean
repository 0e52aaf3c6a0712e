/-! a new object's row; bytes of what was laid behind -/
section F7
variable {f g : Int → Int} {sp dp n i : Int}
theorem mi_v (i : Int) : mIn 1 i = if i = 7 then 30 else if i = 6 then 2 else if i = 5 then 5 else if i = 1 then 2 else if i = 0 then 1 else 0 := rfl
theorem mi_0 (i : Int) (h : 8 ≤ i) : mIn 1 i = 0 := by
  rw [mi_v, if_neg (by omega), if_neg (by omega), if_neg (by omega), if_neg (by omega), if_neg (by omega)]
theorem ini_0 (i : Int) (h : 8 ≤ i) (h1 : i < 104) : ini i = 0 := by
  unfold ini
  rw [if_neg (by omega), if_neg (by omega), if_neg (by omega), if_neg (by omega), if_neg (by omega), if_neg (by omega), if_neg (by omega)]
/-- a new object's row -/
theorem st_ini : StR 0 ini (mIn 1) := by
  have m0 : mIn 1 0 = 1 := rfl
  have m1 : mIn 1 1 = 2 := rfl
  have m2 : mIn 1 2 = 0 := rfl
  have m3 : mIn 1 3 = 0 := rfl
  have m4 : mIn 1 4 = 0 := rfl
  have m5 : mIn 1 5 = 5 := rfl
  have m6 : mIn 1 6 = 2 := rfl
  have m7 : mIn 1 7 = 30 := rfl
  have mc : cs (mIn 1) = 2 := by unfold cs; rw [m0, m1]; rfl
  have nR (r : Int) : ¬ isR (mIn 1) r := by unfold isR; rw [m3]; omega
  have nO (o : Int) : ¬ isO (mIn 1) o := by unfold isO; rw [m4]; omega
  have RC : RgC (mIn 1) := by
    unfold RgC
    rw [mc, m0, m1, m2, m3, m4, m5, m6, m7]
    exact ⟨by omega, by omega, by omega, by omega, by omega, by omega, by omega, by omega, by omega, fun k a b => by rw [mi_0 _ (by omega)]; omega, fun k a b => by rw [mi_0 _ (by omega)]; omega, fun r a b => by omega, fun o a b => by omega⟩
  have RR : Rg (mIn 1) := by
    refine rg_of (fun j => ?_) RC fun o a b => by rw [m4] at b; omega
    rw [mi_v]
    repeat' split
    all_goals omega
  refine ⟨⟨fun i a b => ?_, fun c hc => ?_, fun r hr => absurd hr (nR r), fun o ho => absurd ho (nO o)⟩, ⟨RR, by rw [m2]; omega, ⟨fun r a => absurd a (nR r), fun o a => absurd a (nO o), fun o a => absurd a (nO o)⟩, fun r a => absurd a (nR r), fun r r' a => absurd a (nR r)⟩, fun k a b => ?_, ⟨by rw [m2]; omega, fun r a b => by rw [m3] at b; omega, fun o a b => by rw [m4] at b; omega⟩⟩
  · rcases (by omega : i = 0 ∨ i = 1 ∨ i = 2 ∨ i = 3 ∨ i = 4 ∨ i = 5 ∨ i = 6 ∨ i = 7) with e | e | e | e | e | e | e | e <;> subst e <;> rfl
  · have hc : 0 ≤ c ∧ c < 2 := by unfold isC at hc; rw [mc] at hc; exact hc
    exact ⟨(ini_0 _ (by omega) (by omega)).trans (mi_0 _ (by omega)).symm, (ini_0 _ (by omega) (by omega)).trans (mi_0 _ (by omega)).symm⟩
  · rw [ini_0 _ (by omega) (by omega)]; omega
theorem cpI_lo (h : i < dp) : cpI f g sp dp n i = g i := if_neg (by omega)
theorem cpI_at (h : dp ≤ i) (h1 : i < dp + n) : cpI f g sp dp n i = f (sp + (i - dp)) := if_pos ⟨h, h1⟩
theorem dr_mo {x : Nat} {T C W C' W' kr : Int} {l : Int → Int} {h : q_H} (D : DR x T C W l kr h) (h1 : C ≤ C') (h2 : W ≤ W') : DR x T C' W' l kr h := by
  obtain ⟨nx, ct, kl, c, fa, kd_, m, a, b, d, e⟩ := D
  exact ⟨nx, ct, kl, c, fa, kd_, m, a, b, d, bz_mo e h1 h2⟩
theorem dr_mt {x : Nat} {T T' C W kr : Int} {l : Int → Int} {h : q_H} (D : DR x T C W l kr h) (h0 : 0 ≤ T) (h1 : T ≤ T') : DR x T' C W l kr h := by
  obtain ⟨nx, ct, kl, c, fa, kd_, m, a, b, d, e⟩ := D
  exact ⟨nx, ct, kl, c, fa, kd_, m, a, st_mono b h1 h0, d, e⟩
theorem gd0 {L : List Int} {e : Int} (h : e = 0) : L.getD e.toNat 0 = L.getD 0 0 := by rw [h]; rfl
end F7
