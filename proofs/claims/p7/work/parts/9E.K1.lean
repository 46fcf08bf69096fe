/-! rows copied: the checks -/
theorem cq_453_457_0 : cpChk 453 0 457 0 := ⟨627, 5016, by decide +kernel, by decide +kernel, by decide, by decide, by decide +kernel⟩
theorem cq_453_457_1 : cpChk 453 0 457 627 := ⟨627, 5016, by decide +kernel, by decide +kernel, by decide, by decide, by decide +kernel⟩
theorem cq_453_457_2 : cpChk 453 0 457 1254 := ⟨627, 5016, by decide +kernel, by decide +kernel, by decide, by decide, by decide +kernel⟩
theorem cq_453_457_3 : cpChk 453 0 457 1881 := ⟨627, 5016, by decide +kernel, by decide +kernel, by decide, by decide, by decide +kernel⟩
theorem cq_453_457_4 : cpChk 453 0 457 2508 := ⟨627, 5016, by decide +kernel, by decide +kernel, by decide, by decide, by decide +kernel⟩
theorem cq_453_457_5 : cpChk 453 0 457 3135 := ⟨627, 5016, by decide +kernel, by decide +kernel, by decide, by decide, by decide +kernel⟩
theorem cq_453_457_6 : cpChk 453 0 457 3762 := ⟨627, 5016, by decide +kernel, by decide +kernel, by decide, by decide, by decide +kernel⟩
theorem cq_453_457_7 : cpChk 453 0 457 4389 := ⟨627, 5016, by decide +kernel, by decide +kernel, by decide, by decide, by decide +kernel⟩
theorem cq_455_457_0 : cpChk 455 0 457 0 := ⟨627, 5016, by decide +kernel, by decide +kernel, by decide, by decide, by decide +kernel⟩
theorem cq_455_457_1 : cpChk 455 0 457 627 := ⟨627, 5016, by decide +kernel, by decide +kernel, by decide, by decide, by decide +kernel⟩
theorem cq_455_457_2 : cpChk 455 0 457 1254 := ⟨627, 5016, by decide +kernel, by decide +kernel, by decide, by decide, by decide +kernel⟩
theorem cq_455_457_3 : cpChk 455 0 457 1881 := ⟨627, 5016, by decide +kernel, by decide +kernel, by decide, by decide, by decide +kernel⟩
theorem cq_455_457_4 : cpChk 455 0 457 2508 := ⟨627, 5016, by decide +kernel, by decide +kernel, by decide, by decide, by decide +kernel⟩
theorem cq_455_457_5 : cpChk 455 0 457 3135 := ⟨627, 5016, by decide +kernel, by decide +kernel, by decide, by decide, by decide +kernel⟩
theorem cq_455_457_6 : cpChk 455 0 457 3762 := ⟨627, 5016, by decide +kernel, by decide +kernel, by decide, by decide, by decide +kernel⟩
theorem cq_455_457_7 : cpChk 455 0 457 4389 := ⟨627, 5016, by decide +kernel, by decide +kernel, by decide, by decide, by decide +kernel⟩
theorem cq_457_0_453 : cpChk 457 0 453 0 := ⟨5016, 627, by decide +kernel, by decide +kernel, by decide, by decide, by decide +kernel⟩
theorem cq_457_1_453 : cpChk 457 627 453 0 := ⟨5016, 627, by decide +kernel, by decide +kernel, by decide, by decide, by decide +kernel⟩
theorem cq_457_2_453 : cpChk 457 1254 453 0 := ⟨5016, 627, by decide +kernel, by decide +kernel, by decide, by decide, by decide +kernel⟩
theorem cq_457_3_453 : cpChk 457 1881 453 0 := ⟨5016, 627, by decide +kernel, by decide +kernel, by decide, by decide, by decide +kernel⟩
theorem cq_457_4_453 : cpChk 457 2508 453 0 := ⟨5016, 627, by decide +kernel, by decide +kernel, by decide, by decide, by decide +kernel⟩
theorem cq_457_5_453 : cpChk 457 3135 453 0 := ⟨5016, 627, by decide +kernel, by decide +kernel, by decide, by decide, by decide +kernel⟩
theorem cq_457_6_453 : cpChk 457 3762 453 0 := ⟨5016, 627, by decide +kernel, by decide +kernel, by decide, by decide, by decide +kernel⟩
theorem cq_457_7_453 : cpChk 457 4389 453 0 := ⟨5016, 627, by decide +kernel, by decide +kernel, by decide, by decide, by decide +kernel⟩
theorem cq_453_454 : cpChk 453 0 454 0 := ⟨627, 627, by decide +kernel, by decide +kernel, by decide, by decide, by decide +kernel⟩
theorem cq_454_453 : cpChk 454 0 453 0 := ⟨627, 627, by decide +kernel, by decide +kernel, by decide, by decide, by decide +kernel⟩
theorem kpc_453 : ∀ m, m < 8 → cpChk 453 0 457 (627 * m) := fun m h => match m, h with | 0, _ => cq_453_457_0 | 1, _ => cq_453_457_1 | 2, _ => cq_453_457_2 | 3, _ => cq_453_457_3 | 4, _ => cq_453_457_4 | 5, _ => cq_453_457_5 | 6, _ => cq_453_457_6 | 7, _ => cq_453_457_7 | n + 8, h => absurd h (by omega)
theorem kpc_455 : ∀ m, m < 8 → cpChk 455 0 457 (627 * m) := fun m h => match m, h with | 0, _ => cq_455_457_0 | 1, _ => cq_455_457_1 | 2, _ => cq_455_457_2 | 3, _ => cq_455_457_3 | 4, _ => cq_455_457_4 | 5, _ => cq_455_457_5 | 6, _ => cq_455_457_6 | 7, _ => cq_455_457_7 | n + 8, h => absurd h (by omega)
theorem upc : ∀ m, m < 8 → cpChk 457 (627 * m) 453 0 := fun m h => match m, h with | 0, _ => cq_457_0_453 | 1, _ => cq_457_1_453 | 2, _ => cq_457_2_453 | 3, _ => cq_457_3_453 | 4, _ => cq_457_4_453 | 5, _ => cq_457_5_453 | 6, _ => cq_457_6_453 | 7, _ => cq_457_7_453 | n + 8, h => absurd h (by omega)
