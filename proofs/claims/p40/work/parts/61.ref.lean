/-! the reference: changes (printed by program) -/
section RM
variable {E : q_E} {h : q_H} {am : Nat} {M : q_Im}
theorem m_len {h : q_H} {a t n : Nat} {x : (Nat → Int32) ⊕ ((Nat → Int64) ⊕ ((Nat → UInt32) ⊕ ((Nat → UInt64) ⊕ (Nat → Option Nat))))} (e : h.1 a = some (.inl (t, n, x))) (ht : t ≤ 8) : q_len E h a = some (zi (n : Int)) := by
  unfold q_len
  rw [e]
  simp only
  rw [if_pos ht]
  rfl
/-- the reference's refusal -/
def mrf (M : q_Im) (k d : Int) : q_Im := uM (uM (uM M 0 5 1) 0 6 k) 0 7 d
/-- the row kept, before a change -/
def mch (M : q_Im) : q_Im := if M 0 4 = 8 then uM (uA (uM (uA M 3 (cpI (M 3) (M 3) 400 0 2800)) 0 4 7) 3 (cpI (M 1) (cpI (M 3) (M 3) 400 0 2800) 0 2800 400)) 0 4 8 else uM (uA M 3 (cpI (M 1) (M 3) 0 (400 * M 0 4) 400)) 0 4 (M 0 4 + 1)
theorem mch_s {j : Nat} (h3 : j ≠ 3) (h0 : j ≠ 0) : mch M j = M j := by
  unfold mch
  split
  · exact (uA_ne h0).trans ((uA_ne h3).trans ((uA_ne h0).trans (uA_ne h3)))
  · exact (uA_ne h0).trans (uA_ne h3)
theorem mch_1 : mch M 1 = M 1 := mch_s (by decide) (by decide)
theorem mch_0 {k : Int} (hk : k ≠ 4) : mch M 0 k = M 0 k := by
  unfold mch
  split
  · exact (congrFun uA_eq k).trans ((u1_ne hk).trans ((congrFun (uA_ne (by decide)) k).trans ((congrFun uA_eq k).trans ((u1_ne hk).trans (congrFun (uA_ne (by decide)) k)))))
  · exact (congrFun uA_eq k).trans ((u1_ne hk).trans (congrFun (uA_ne (by decide)) k))
end RM
