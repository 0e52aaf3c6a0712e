/-! the reference: a tick, the walk (printed by program) -/
section RA9
variable {E : q_E} {h : q_H} {am : Nat} {M M2 : q_Im} {l l0 f : Int → Int} {r g T t k w v c e d b s : Int}
theorem rg_now (hR : Rg l) (hT : 0 ≤ l 2) (h : l 2 + 1 ≤ 1000000) : Rg (u1 l 2 (l 2 + 1)) := by
  have gO := hR.2.2.2.2.2.2.2.2.2.2.2.2
  refine rg_of (u1_r hR.1 (by omega)) (rgc_now (rgc_of hR hT) (by omega)) fun o a b => ?_
  rw [u1_ne (by omega)] at b
  rw [show ob (u1 l 2 (l 2 + 1)) o 3 = ob l o 3 from u1_ne (i := 320 + 8 * o + 3) (by omega), u1_ne (by omega)]
  exact (gO o a b).2
theorem tkm_eq (hl : 0 < rb l k 3 ∧ rb l k 3 ≤ 30) (hb : b = if rb l k 6 = rb l k 0 then rb l k 1 else rb l k 1 - rb l k 4) (hs : s = if rb l k 6 = rb l k 0 then rb l k 5 else rb l k 5 + 1) :
    cpI (u1 (u1 (u1 (u1 l (104 + 36 * k + 1) b) (104 + 36 * k + 5) s) (104 + 36 * k + 0) (rb l k 6)) (104 + 36 * k + 3) (rb l k 3 - 1)) (u1 (u1 (u1 (u1 l (104 + 36 * k + 1) b) (104 + 36 * k + 5) s) (104 + 36 * k + 0) (rb l k 6)) (104 + 36 * k + 3) (rb l k 3 - 1)) (104 + 36 * k + 6 + 1) (104 + 36 * k + 6) (rb l k 3 - 1) = tkm l k := by
  have h7 : ahf (rb l k) 1 = rb l k 6 := by
    unfold ahf
    rw [if_neg (by omega), if_neg (by omega)]
    rfl
  funext i
  generalize hF : u1 (u1 (u1 (u1 l (104 + 36 * k + 1) b) (104 + 36 * k + 5) s) (104 + 36 * k + 0) (rb l k 6)) (104 + 36 * k + 3) (rb l k 3 - 1) = F
  have hn (j : Int) (j0 : j ≠ 104 + 36 * k) (j1 : j ≠ 104 + 36 * k + 1) (j3 : j ≠ 104 + 36 * k + 3) (j5 : j ≠ 104 + 36 * k + 5) : F j = l j := by
    rw [← hF, u1_ne (by omega), u1_ne (by omega), u1_ne (by omega), u1_ne (by omega)]
  show (if 104 + 36 * k + 6 ≤ i ∧ i < 104 + 36 * k + 6 + (rb l k 3 - 1) then F (104 + 36 * k + 6 + 1 + (i - (104 + 36 * k + 6))) else F i) = (if 104 + 36 * k ≤ i ∧ i < 140 + 36 * k then gon (rb l k) (i - (104 + 36 * k)) else l i)
  by_cases z : 104 + 36 * k + 6 ≤ i ∧ i < 104 + 36 * k + 6 + (rb l k 3 - 1)
  · rw [if_pos z, if_pos (by omega), hn _ (by omega) (by omega) (by omega) (by omega)]
    have e := gon_p (f := rb l k) (t := i - (104 + 36 * k + 6)) (by omega) (by omega)
    rw [show i - (104 + 36 * k) = 6 + (i - (104 + 36 * k + 6)) by omega, e]
    show l _ = l (104 + 36 * k + (6 + (i - (104 + 36 * k + 6) + 1)))
    congr 1
    omega
  · rw [if_neg z]
    by_cases y : 104 + 36 * k ≤ i ∧ i < 140 + 36 * k
    · rw [if_pos y]
      by_cases j3 : i = 104 + 36 * k + 3
      · rw [j3, show 104 + 36 * k + 3 - (104 + 36 * k) = 3 by omega, gon_3, ← hF, u1_eq]
      · by_cases j0 : i = 104 + 36 * k + 0
        · rw [j0, show 104 + 36 * k + 0 - (104 + 36 * k) = 0 by omega, gon_0, h7, ← hF, u1_ne (by omega), u1_eq]
        · by_cases j5 : i = 104 + 36 * k + 5
          · rw [j5, show 104 + 36 * k + 5 - (104 + 36 * k) = 5 by omega, gon_5, h7, ← hF, u1_ne (by omega), u1_ne (by omega), u1_eq, hs]
          · by_cases j1 : i = 104 + 36 * k + 1
            · rw [j1, show 104 + 36 * k + 1 - (104 + 36 * k) = 1 by omega, gon_1, h7, ← hF, u1_ne (by omega), u1_ne (by omega), u1_ne (by omega), u1_eq, hb]
            · rw [hn i (by omega) (by omega) (by omega) (by omega)]
              unfold gon
              rw [if_neg (by omega), if_neg (by omega), if_neg (by omega), if_neg (by omega), if_neg (by omega)]
              show l i = l (104 + 36 * k + (i - (104 + 36 * k)))
              congr 1
              omega
    · rw [if_neg y, hn i (by omega) (by omega) (by omega) (by omega)]
theorem chg_eq : u1 l (104 + 36 * k + 1) v = rset l k (u1 (rb l k) 1 v) := (rset_u (l := l) (r := k) (v := v) (k := 1) (by omega) (by omega)).symm
theorem tkm_3 (hk : 0 ≤ k) : rb (tkm l k) k 3 = rb l k 3 - 1 := (rset_eq (by omega) (by omega)).trans gon_3
theorem enV_r : 0 ≤ enV l r ∧ enV l r ≤ 1 := by
  unfold enV
  repeat' split
  all_goals omega
end RA9
