/-! The runs of the law, by the script. Printed by wip/p1/gen40.py. -/
noncomputable def ez_rP (L : List (Nat × List ex_E)) (v : ex_V) (A : Nat) : Bool := el_run L [] ((nat_lit 33), ez_ls1, [v], ez_lawP (nat_lit 6) A, (nat_lit 362), (nat_lit 6690))
noncomputable def ez_rB (L : List (Nat × List ex_E)) (v : ex_V) (A : Nat) : Bool := el_run L [] ((nat_lit 33), ez_ls1, [v], ez_lawB (nat_lit 6) A, (nat_lit 362), (nat_lit 6690))
noncomputable def ez_rC (L : List (Nat × List ex_E)) (v : ex_V) (A : Nat) : Bool := el_run L [] ((nat_lit 33), ez_ls1, [v], ez_lawC (nat_lit 6) A, (nat_lit 362), (nat_lit 6690))
theorem ez_run0 : el_run ez_L0 [ez_S0] ((nat_lit 0), ez_lsE, [], ez_e0, (nat_lit 0), (nat_lit 0)) = true := by decide +kernel
theorem ez_runL0 : el_run ez_L0 [] ((nat_lit 16), ez_ls0, [], ez_lawP (nat_lit 0) (ez_any (nat_lit 0)), (nat_lit 362), (nat_lit 6690)) = true := by decide +kernel
theorem ez_runL1 : el_run ez_L0 [] ((nat_lit 16), ez_ls0, [], ez_lawP (nat_lit 1) (ez_any (nat_lit 1)), (nat_lit 362), (nat_lit 6690)) = true := by decide +kernel
theorem ez_runL2 : el_run ez_L0 [] ((nat_lit 16), ez_ls0, [], ez_lawP (nat_lit 2) (ez_any (nat_lit 2)), (nat_lit 362), (nat_lit 6690)) = true := by decide +kernel
theorem ez_runL3 : el_run ez_L0 [] ((nat_lit 16), ez_ls0, [], ez_lawP (nat_lit 3) (ez_any (nat_lit 3)), (nat_lit 362), (nat_lit 6690)) = true := by decide +kernel
theorem ez_runL4 : el_run ez_L0 [] ((nat_lit 16), ez_ls0, [], ez_lawP (nat_lit 4) (ez_any (nat_lit 4)), (nat_lit 362), (nat_lit 6690)) = true := by decide +kernel
theorem ez_runL5 : el_run ez_L0 [] ((nat_lit 16), ez_ls0, [], ez_lawP (nat_lit 5) (ez_any (nat_lit 5)), (nat_lit 362), (nat_lit 6690)) = true := by decide +kernel
theorem ez_run6 : el_run ez_L0 [ez_S1] ((nat_lit 16), ez_ls0, [], ez_lawP (nat_lit 6) (ez_any (nat_lit 6)), (nat_lit 362), (nat_lit 6690)) = true := by decide +kernel
theorem ez_lo : ez_rP ez_L0 (.inr (.inr (.inr (.inl ((Int.negSucc (nat_lit 2147483647)), (Int.negSucc (nat_lit 0))))))) (ez_any (nat_lit 6)) = true := by decide +kernel
theorem ez_hi : ez_rP ez_L0 (.inr (.inr (.inr (.inl ((Int.ofNat (nat_lit 34)), (Int.ofNat (nat_lit 2147483647))))))) (ez_any (nat_lit 6)) = true := by decide +kernel
theorem ez_leB : ex_leH ez_hP ez_hB = true := by decide +kernel
theorem ez_leC : ex_leH ez_hP ez_hC = true := by decide +kernel
