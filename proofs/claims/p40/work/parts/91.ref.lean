/-! the reference: its constructor (printed by program) -/
section RB8
variable {E : q_E} {h h' : q_H} {am N a t n c s : Nat} {M : q_Im} {f : Int → Int} {z v : Int}
theorem ex_s (ha : h.1 a = some (.inl (t, n, .inl fun k => zi (f k)))) (h1 : 0 ≤ z) (h2 : z < n) (hn : n < 2147483648) : ∃ h', q_sI h t a (zi z) (zi v) = some h' ∧ h'.1 a = some (.inl (t, n, .inl fun k => zi (u1 f z v k))) ∧ Fr a 1 h h' := by
  refine ⟨_, q_sI_of ha h1 h2 hn, ?_, fr_up⟩
  rw [u1_toNat h1]
  exact q_up_eq
def mIn : q_Im := fun j => if j = 0 then (fun k => if k = 17 then -1 else 0) else if j = 1 then u1 (u1 (u1 (u1 (u1 (fun _ => 0) 0 1) 1 2) 5 5) 6 2) 7 30 else fun _ => 0
end RB8
