/-! keeps: the checks -/
theorem kp_453 : KpChk 453 := ⟨by decide +kernel, by decide +kernel, by decide +kernel, kpc_453⟩
theorem kp_455 : KpChk 455 := ⟨by decide +kernel, by decide +kernel, by decide +kernel, kpc_455⟩
theorem hh_224 {Ev : Env9} : CK Ev 60 (258, ct_224) := fun k hk => keeps_ok (Or.inr rfl) kp_455 k (by omega)
