/-! what the checks ask of the row -/
section C3
variable {l l' m X : Int → Int} {r r' x y z t T k o g c v : Int}
theorem fnd_only {P : Int → Prop} {n : Nat} {i : Int} (h0 : 0 ≤ i) (h1 : i < n) (hp : P i) (hu : ∀ j : Int, 0 ≤ j → j < n → P j → j = i) : fnd P n 0 = i := fnd_y (Int.le_refl 0) h0 (by omega) hp fun j a b e => by have := hu j a (by omega) e; omega
theorem rin_is (hN : NDl l) (hr : isR l r) (ht : 0 ≤ t) : rin l (ahd l r t) t = r := by
  unfold rin
  refine fnd_only hr.1 (by have := hr.1; have := hr.2; omega) rfl fun j a b e => Classical.byContradiction fun n => hN j r ⟨a, by have := hr.2; omega⟩ hr n t ht e
theorem bI_ent (hE : ENl l) (hr : isR l r) (ht : 0 ≤ t) : bI (ent l (ahd l r t)) = 1 := bI_t (hE r hr t ht).2
theorem far_stp (hR : RgC l) (hE : ENl l) (hJ : JR l r) (hr : isR l r) (ht : 0 ≤ t) (hn : ¬ ahd l r t = ahd l r (t + 1)) : far l (ahd l r t) (ahd l r (t + 1)) = 1 := by
  obtain ⟨w, hw, e⟩ := hJ.1 t ht
  have e2 := hE r hr (t + 1) (by omega)
  refine far_1 hR (hE r hr t ht).1 ⟨w, ⟨hw.1, ?_⟩, e, e2.1.1, e2.2⟩ hn
  rcases (by omega : w < 4 ∨ w = 4) with q | q
  · exact q
  · rw [q, bes_4] at e
    exact absurd e hn
theorem ahd_end (h3 : 0 ≤ rb l r 3) (ht : rb l r 3 ≤ t) : ahd l r t = ahd l r (rb l r 3) := ahf_end h3 ht
theorem ahd_z (h3 : rb l r 3 = 0) : ahd l r t = rb l r 0 := ahf_0 (Or.inr h3)
end C3
