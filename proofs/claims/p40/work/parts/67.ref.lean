/-! the reference: loaded, lateness, waiting (printed by program) -/
section RS
variable {E : q_E} {h : q_H} {am : Nat} {M M2 : q_Im} {l : Int → Int} {Mm : q_M} {pc : Nat} {ls st : List Value}
noncomputable def mld (l : Int → Int) : Int := lpI (fun k a => a + bI (ldd l k)) (l 3).toNat 0 0
noncomputable def mlc (l : Int → Int) : Int := lpI (fun k a => if sto l k = 2 then a + 1 else a) (l 4).toNat 0 0
noncomputable def mls (l : Int → Int) : Int := lpI (fun k a => if sto l k = 2 then a + (ob l k 4 - ob l k 0) else a) (l 4).toNat 0 0
noncomputable def mwb (l : Int → Int) (o : Int) : Int := lpI (fun k a => a + bI (sto l k = 0 ∧ ahO l k o)) (l 4).toNat 0 0
noncomputable def mwc (l : Int → Int) : Int := lpI (fun k a => if sto l k = 0 then a + 1 else a) (l 4).toNat 0 0
noncomputable def mwf (l : Int → Int) (i : Int) : Int := lpI (fun k a => if sto l k = 0 then (if mwb l k = i then k else a) else a) (l 4).toNat 0 (-1)
noncomputable def ldM (l : Int → Int) : Int × UInt32 := if l 3 = 0 then (1, FP.fconst0) else (0, FP.fdiv (FP.i2f (zi (mld l))) (FP.i2f (zi (l 3))))
noncomputable def ltM (l : Int → Int) : Int × UInt64 := if mlc l = 0 then (1, FP.dconst0) else (0, FP.ddiv (FP.i2d (zi (mls l))) (FP.i2d (zi (mlc l))))
noncomputable def waiM (l : Int → Int) (i : Int) : Int × Int := if ¬ inn i (-1) (mwc l - 1) then (1, 0) else if i < 0 then (0, mwc l) else (0, mwf l i)
end RS
