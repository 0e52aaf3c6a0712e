/-! the reference: the plan's cells (printed by program) -/
section RA6
variable {E : q_E} {h : q_H} {am : Nat} {M M2 : q_Im} {l G P : Int → Int} {r g T t k w v c : Int}
noncomputable def nxd (l : Int → Int) (r g T t c : Int) : Int := fnd (gosE l r g T t c) 5 0
noncomputable def gpx (l : Int → Int) (r g T : Int) : Nat → Int
  | 0 => rb l r 0
  | n + 1 => bes l (gpx l r g T n) (nxd l r g T n (gpx l r g T n))
/-- the plan's cells, from the next tick on -/
noncomputable def gpP (l : Int → Int) (r g T : Int) (t : Int) : Int := gpx l r g T (t + 1).toNat
noncomputable def mvM (l : Int → Int) (r g T : Int) : Int := mvc (gpP l r g T) T.toNat 0 (rb l r 0) 0
theorem nxd_h (h0 : 0 ≤ w ∧ w ≤ 4) (hp : gosE l r g T t c w) (hn : ∀ u, 0 ≤ u → u < w → ¬ gosE l r g T t c u) : nxd l r g T t c = w := fnd_y (by omega) h0.1 (by omega) hp hn
theorem gpx_s (ht : 0 ≤ t) (hc : gpx l r g T t.toNat = c) (h0 : 0 ≤ w ∧ w ≤ 4) (hp : gosE l r g T t c w) (hn : ∀ u, 0 ≤ u → u < w → ¬ gosE l r g T t c u) : gpx l r g T (t + 1).toNat = bes l c w := by
  rw [show (t + 1).toNat = t.toNat + 1 by omega]
  show bes l (gpx l r g T t.toNat) (nxd l r g T (t.toNat : Nat) (gpx l r g T t.toNat)) = _
  rw [hc, Int.toNat_of_nonneg ht, nxd_h h0 hp hn]
end RA6
