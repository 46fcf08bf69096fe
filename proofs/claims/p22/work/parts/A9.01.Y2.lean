/-! a day of work: hearReplies, payStaff, work on views -/
noncomputable def hr2R : List Ins := [(6, 0, 4, 0, 0, 0, 0), (5, 0, 2, 0, 0, 0, 0), (5, 2, 0, 0, 0, 0, 0), (21, 9, 0, 0, 0, 0, 0), (5, 0, 4, 0, 0, 0, 0), (26, 0, 0, 0, 0, 0, 0), (21, 3, 2, 0, 0, 0, 0), (9, 0, 0, 0, 0, 0, 0), (6, 0, 2, 0, 0, 0, 0), (5, 2, 1, 0, 0, 0, 0), (21, 8, 9, 0, 0, 0, 0), (5, 0, 4, 0, 0, 0, 0), (13, 0, 0, 0, 0, 0, 0), (23, 0, 0, 0, 0, 0, 0), (0, 1, 0, 0, 0, 0, 0), (9, 0, 0, 0, 0, 0, 0), (24, 0, 0, 0, 0, 0, 0), (8, 3, 1, 0, 0, 0, 0)]
noncomputable def hr2T : Tin := ((0, 1, 0, 0, 0, 0, 0), [])
noncomputable def ps2R : List Ins := [(26, 0, 0, 0, 0, 0, 0), (6, 2, 3, 0, 0, 0, 0), (5, 2, 1, 0, 0, 0, 0), (21, 8, 3, 0, 0, 0, 0), (5, 2, 3, 0, 0, 0, 0), (21, 3, 2, 0, 0, 0, 0), (10, 1, 0, 0, 0, 0, 0), (6, 0, 4, 0, 0, 0, 0), (5, 2, 1, 0, 0, 0, 0), (21, 8, 4, 0, 0, 0, 0), (5, 0, 4, 0, 0, 0, 0)]
noncomputable def ps2T : Tin := ((1, 4, 3, 3, 0, 0, 0), [])
noncomputable def hr1k (V r : Nat) (g : Vw) : Vw := vup g V 10 ((g V 10 + r) % 4294967296)
noncomputable def hr2k (V r : Nat) (g : Vw) : Vw := vup (hr1k V r g) V 4 ((hr1k V r g V 4 + g_imul (hr1k V r g V 1) r) % 4294967296)
noncomputable def hrE (A V r : Nat) (g : Vw) : Vw := vup (hr2k V r g) A 8 ((hr2k V r g A 8 + g_imul (hr2k V r g V 1) r) % 4294967296)
theorem hr2k_o {V r a b : Nat} {g : Vw} (h : a ≠ V ∨ (b ≠ 4 ∧ b ≠ 10)) : hr2k V r g a b = g a b := (vup_ne (by omega)).trans (vup_ne (by omega))
theorem hr2k_4 {V r : Nat} {g : Vw} : hr2k V r g V 4 = (g V 4 + g_imul (g V 1) r) % 4294967296 := by
  have e4 : hr1k V r g V 4 = g V 4 := vup_ne (Or.inr (by decide))
  have e1 : hr1k V r g V 1 = g V 1 := vup_ne (Or.inr (by decide))
  have e : hr2k V r g V 4 = (hr1k V r g V 4 + g_imul (hr1k V r g V 1) r) % 4294967296 := vup_eq
  rw [e, e4, e1]
theorem hrE_8 {A V r : Nat} {g : Vw} (h : A ≠ V) : hrE A V r g A 8 = (g A 8 + g_imul (g V 1) r) % 4294967296 := by
  have e8 : hr2k V r g A 8 = g A 8 := hr2k_o (Or.inl h)
  have e1 : hr2k V r g V 1 = g V 1 := hr2k_o (Or.inr ⟨by decide, by decide⟩)
  have e : hrE A V r g A 8 = (hr2k V r g A 8 + g_imul (hr2k V r g V 1) r) % 4294967296 := vup_eq
  rw [e, e8, e1]
theorem hrE_4 {A V r : Nat} {g : Vw} (h : A ≠ V) : hrE A V r g V 4 = (g V 4 + g_imul (g V 1) r) % 4294967296 := (vup_ne (Or.inl (fun w => h w.symm))).trans hr2k_4
theorem hrE_o {A V r a b : Nat} {g : Vw} (h1 : a ≠ A ∨ b ≠ 8) (h2 : a ≠ V ∨ (b ≠ 4 ∧ b ≠ 10)) : hrE A V r g a b = g a b := (vup_ne h1).trans (hr2k_o h2)
noncomputable def ps1k (V p : Nat) (g : Vw) : Vw := vup g V 4 (g_sub (g V 4) p)
noncomputable def ps2k (V p : Nat) (g : Vw) : Vw := vup (ps1k V p g) V 11 ((ps1k V p g V 11 + p) % 4294967296)
noncomputable def ps3k (V c p : Nat) (g : Vw) : Vw := vup (ps2k V p g) c 5 ((ps2k V p g c 5 + p) % 4294967296)
noncomputable def psE (V c p : Nat) (g : Vw) : Vw := vup (ps3k V c p g) c 6 0
theorem psE_4 {V c p : Nat} {g : Vw} (h : c ≠ V) : psE V c p g V 4 = g_sub (g V 4) p := (vup_ne (Or.inl (fun w => h w.symm))).trans ((vup_ne (Or.inl (fun w => h w.symm))).trans ((vup_ne (Or.inr (by decide))).trans vup_eq))
theorem psE_5 {V c p : Nat} {g : Vw} (h : c ≠ V) : psE V c p g c 5 = (g c 5 + p) % 4294967296 := by
  have e : ps2k V p g c 5 = g c 5 := (vup_ne (Or.inl h)).trans (vup_ne (Or.inl h))
  have e2 : psE V c p g c 5 = (ps2k V p g c 5 + p) % 4294967296 := (vup_ne (Or.inr (by decide))).trans vup_eq
  rw [e2, e]
theorem psE_o {V c p a b : Nat} {g : Vw} (h1 : a ≠ V ∨ (b ≠ 4 ∧ b ≠ 11)) (h2 : a ≠ c ∨ (b ≠ 5 ∧ b ≠ 6)) : psE V c p g a b = g a b := (vup_ne (by omega)).trans ((vup_ne (by omega)).trans ((vup_ne (by omega)).trans (vup_ne (by omega))))
/-- what a day of work leaves as it was -/
def FrW (A : Nat) (f g : Vw) : Prop := ∀ a b : Nat, (a < A ∨ A + 39 ≤ a ∨ (a = A ∧ b ≠ 8) ∨ (A + 3 ≤ a ∧ a < A + 15 ∧ b ≠ 5 ∧ b ≠ 6) ∨ ∃ v, v < 8 ∧ (a = A + 15 + 3 * v ∧ b ≠ 4 ∧ b ≠ 10 ∧ b ≠ 11 ∨ a = A + 16 + 3 * v)) → g a b = f a b
def WkR (A : Nat) (f g : Vw) : Prop := (Bal f A → Bal g A) ∧ FrW A f g
theorem wkR_tr {A : Nat} {f g h : Vw} (a : WkR A f g) (b : WkR A g h) : WkR A f h := ⟨fun q => b.1 (a.1 q), fun x y w => (b.2 x y w).trans (a.2 x y w)⟩
theorem wkR_rf {A : Nat} {f : Vw} : WkR A f f := ⟨fun q => q, fun _ _ _ => rfl⟩
theorem hr_R {A j r : Nat} {f g : Vw} (hj : j < f A 3) (h8 : f A 3 ≤ 8) (hg : ∀ a b, a ≠ A + 17 + 3 * j → g a b = f a b) (h2 : f A 2 ≤ 12) : WkR A f (hrE A (A + 15 + 3 * j) r g) := by
  have fr : ∀ a b, a ≠ A + 17 + 3 * j → (a ≠ A ∨ b ≠ 8) → (a ≠ A + 15 + 3 * j ∨ (b ≠ 4 ∧ b ≠ 10)) → hrE A (A + 15 + 3 * j) r g a b = f a b := fun a b h1 h2 h3 => (hrE_o h2 h3).trans (hg a b h1)
  refine ⟨fun hb => ?_, fun a b h => ?_⟩
  · have e8 : hrE A (A + 15 + 3 * j) r g A 8 = (f A 8 + g_imul (g (A + 15 + 3 * j) 1) r) % 4294967296 := by rw [hrE_8 (by omega), hg A 8 (by omega)]
    have e4 : hrE A (A + 15 + 3 * j) r g (A + 15 + 3 * j) 4 = (f (A + 15 + 3 * j) 4 + g_imul (g (A + 15 + 3 * j) 1) r) % 4294967296 := by rw [hrE_4 (by omega), hg (A + 15 + 3 * j) 4 (by omega)]
    exact bal_earn hb hj (fr _ _ (by omega) (by omega) (by omega)) (fr _ _ (by omega) (by omega) (by omega)) (fr _ _ (by omega) (by omega) (by omega)) e8 (fr _ _ (by omega) (by omega) (by omega)) (fr _ _ (by omega) (by omega) (by omega)) e4 (fun v hv w => fr _ _ (by omega) (by omega) (by omega)) (fun e he => fr _ _ (by omega) (by omega) (by omega))
  · refine fr a b ?_ ?_ ?_
    · rcases h with h | h | h | h | ⟨v, hv, h | h⟩ <;> omega
    · rcases h with h | h | h | h | ⟨v, hv, h | h⟩ <;> omega
    · rcases h with h | h | h | h | ⟨v, hv, h | h⟩ <;> omega
theorem ps_R {A j e p : Nat} {g : Vw} (hj : j < g A 3) (h8 : g A 3 ≤ 8) (he : e < g A 2) (h2 : g A 2 ≤ 12) : WkR A g (psE (A + 15 + 3 * j) (A + 3 + e) p g) := by
  have fr : ∀ a b, (a ≠ A + 15 + 3 * j ∨ (b ≠ 4 ∧ b ≠ 11)) → (a ≠ A + 3 + e ∨ (b ≠ 5 ∧ b ≠ 6)) → psE (A + 15 + 3 * j) (A + 3 + e) p g a b = g a b := fun a b h1 h2 => psE_o h1 h2
  refine ⟨fun hb => ?_, fun a b h => ?_⟩
  · exact bal_pay hb hj he (fr _ _ (by omega) (by omega)) (fr _ _ (by omega) (by omega)) (fr _ _ (by omega) (by omega)) (fr _ _ (by omega) (by omega)) (fr _ _ (by omega) (by omega)) (fr _ _ (by omega) (by omega)) (psE_4 (by omega)) (fun v hv w => fr _ _ (by omega) (by omega)) (psE_5 (by omega)) (fun e' he' w => fr _ _ (by omega) (by omega))
  · refine fr a b ?_ ?_
    · rcases h with h | h | h | h | ⟨v, hv, h | h⟩ <;> omega
    · rcases h with h | h | h | h | ⟨v, hv, h | h⟩ <;> omega
theorem un_R {A j e x : Nat} {g : Vw} (h2 : g A 2 ≤ 12) (he : e < g A 2) (h8 : g A 3 ≤ 8) : WkR A g (vup g (A + 3 + e) 6 x) := by
  have fr : ∀ a b, (a ≠ A + 3 + e ∨ b ≠ 6) → vup g (A + 3 + e) 6 x a b = g a b := fun a b h => vup_ne h
  refine ⟨fun hb => ?_, fun a b h => fr a b (by rcases h with h | h | h | h | ⟨v, hv, h | h⟩ <;> omega)⟩
  exact bal_same hb (fun i _ => fr _ _ (by omega)) (fun v hv => fr _ _ (by omega)) (fun e' he' => fr _ _ (by omega))
theorem hr2_7_0_0 {D F e r : Nat} {x4 : AV} {g : Vw} (he : e < 12) (h : g 23 0 = e) : vFn (vM MT0 D) nb_X9_hearReplies (F + 1) 2 0 [vR 7, vR 22, vI r, vI 0, x4] [] g = vFn (vM MT0 D) nb_X9_hearReplies F 1 0 [vR 7, vR 22, vI ((r + g (7 + 3 + e) 2) % 4294967296), vI (0 + 1), vI e] [] (vup g (7 + 17 + 3 * 0) e ((g (7 + 17 + 3 * 0) e + 1) % 4294967296)) := by
  refine (vF_g rfl rfl).trans ?_
  refine Eq.trans (b := vB (vM MT0 D) (vFn (vM MT0 D) nb_X9_hearReplies F) hr2T hr2R 0 [vR 7, vR 22, vI r, vI 0, x4] [vI (g 23 0)] g) rfl ?_
  rw [h]
  clear h
  rcases (show e = 0 ∨ e = 1 ∨ e = 2 ∨ e = 3 ∨ e = 4 ∨ e = 5 ∨ e = 6 ∨ e = 7 ∨ e = 8 ∨ e = 9 ∨ e = 10 ∨ e = 11 by omega) with rfl | rfl | rfl | rfl | rfl | rfl | rfl | rfl | rfl | rfl | rfl | rfl <;> exact rfl
theorem ps2_7_0_0 {D F e : Nat} {x3 x4 : AV} {g : Vw} (he : e < 12) (h : g 23 0 = e) : vFn (vM MT0 D) nb_X9_payStaff (F + 1) 2 0 [vR 7, vR 22, vI 0, x3, x4] [] g = vc3 (bv (g 22 4)) (bv (g_imul (g 22 3) (g (7 + 3 + e) 2))) (vFn (vM MT0 D) nb_X9_payStaff F 4 0 [vR 7, vR 22, vI 0, vR (7 + 3 + e), vI (g_imul (g 22 3) (g (7 + 3 + e) 2))] [] g) (vFn (vM MT0 D) nb_X9_payStaff F 3 0 [vR 7, vR 22, vI 0, vR (7 + 3 + e), vI (g_imul (g 22 3) (g (7 + 3 + e) 2))] [] g) (vFn (vM MT0 D) nb_X9_payStaff F 3 0 [vR 7, vR 22, vI 0, vR (7 + 3 + e), vI (g_imul (g 22 3) (g (7 + 3 + e) 2))] [] g) := by
  refine (vF_g rfl rfl).trans ?_
  refine Eq.trans (b := vB (vM MT0 D) (vFn (vM MT0 D) nb_X9_payStaff F) ps2T ps2R 0 [vR 7, vR 22, vI 0, x3, x4] [vI (g 23 0), vR 8] g) rfl ?_
  rw [h]
  clear h
  rcases (show e = 0 ∨ e = 1 ∨ e = 2 ∨ e = 3 ∨ e = 4 ∨ e = 5 ∨ e = 6 ∨ e = 7 ∨ e = 8 ∨ e = 9 ∨ e = 10 ∨ e = 11 by omega) with rfl | rfl | rfl | rfl | rfl | rfl | rfl | rfl | rfl | rfl | rfl | rfl <;> exact rfl
theorem hr2_7_0_1 {D F e r : Nat} {x4 : AV} {g : Vw} (he : e < 12) (h : g 23 1 = e) : vFn (vM MT0 D) nb_X9_hearReplies (F + 1) 2 0 [vR 7, vR 22, vI r, vI 1, x4] [] g = vFn (vM MT0 D) nb_X9_hearReplies F 1 0 [vR 7, vR 22, vI ((r + g (7 + 3 + e) 2) % 4294967296), vI (1 + 1), vI e] [] (vup g (7 + 17 + 3 * 0) e ((g (7 + 17 + 3 * 0) e + 1) % 4294967296)) := by
  refine (vF_g rfl rfl).trans ?_
  refine Eq.trans (b := vB (vM MT0 D) (vFn (vM MT0 D) nb_X9_hearReplies F) hr2T hr2R 0 [vR 7, vR 22, vI r, vI 1, x4] [vI (g 23 1)] g) rfl ?_
  rw [h]
  clear h
  rcases (show e = 0 ∨ e = 1 ∨ e = 2 ∨ e = 3 ∨ e = 4 ∨ e = 5 ∨ e = 6 ∨ e = 7 ∨ e = 8 ∨ e = 9 ∨ e = 10 ∨ e = 11 by omega) with rfl | rfl | rfl | rfl | rfl | rfl | rfl | rfl | rfl | rfl | rfl | rfl <;> exact rfl
theorem ps2_7_0_1 {D F e : Nat} {x3 x4 : AV} {g : Vw} (he : e < 12) (h : g 23 1 = e) : vFn (vM MT0 D) nb_X9_payStaff (F + 1) 2 0 [vR 7, vR 22, vI 1, x3, x4] [] g = vc3 (bv (g 22 4)) (bv (g_imul (g 22 3) (g (7 + 3 + e) 2))) (vFn (vM MT0 D) nb_X9_payStaff F 4 0 [vR 7, vR 22, vI 1, vR (7 + 3 + e), vI (g_imul (g 22 3) (g (7 + 3 + e) 2))] [] g) (vFn (vM MT0 D) nb_X9_payStaff F 3 0 [vR 7, vR 22, vI 1, vR (7 + 3 + e), vI (g_imul (g 22 3) (g (7 + 3 + e) 2))] [] g) (vFn (vM MT0 D) nb_X9_payStaff F 3 0 [vR 7, vR 22, vI 1, vR (7 + 3 + e), vI (g_imul (g 22 3) (g (7 + 3 + e) 2))] [] g) := by
  refine (vF_g rfl rfl).trans ?_
  refine Eq.trans (b := vB (vM MT0 D) (vFn (vM MT0 D) nb_X9_payStaff F) ps2T ps2R 0 [vR 7, vR 22, vI 1, x3, x4] [vI (g 23 1), vR 8] g) rfl ?_
  rw [h]
  clear h
  rcases (show e = 0 ∨ e = 1 ∨ e = 2 ∨ e = 3 ∨ e = 4 ∨ e = 5 ∨ e = 6 ∨ e = 7 ∨ e = 8 ∨ e = 9 ∨ e = 10 ∨ e = 11 by omega) with rfl | rfl | rfl | rfl | rfl | rfl | rfl | rfl | rfl | rfl | rfl | rfl <;> exact rfl
theorem hr2_7_0_2 {D F e r : Nat} {x4 : AV} {g : Vw} (he : e < 12) (h : g 23 2 = e) : vFn (vM MT0 D) nb_X9_hearReplies (F + 1) 2 0 [vR 7, vR 22, vI r, vI 2, x4] [] g = vFn (vM MT0 D) nb_X9_hearReplies F 1 0 [vR 7, vR 22, vI ((r + g (7 + 3 + e) 2) % 4294967296), vI (2 + 1), vI e] [] (vup g (7 + 17 + 3 * 0) e ((g (7 + 17 + 3 * 0) e + 1) % 4294967296)) := by
  refine (vF_g rfl rfl).trans ?_
  refine Eq.trans (b := vB (vM MT0 D) (vFn (vM MT0 D) nb_X9_hearReplies F) hr2T hr2R 0 [vR 7, vR 22, vI r, vI 2, x4] [vI (g 23 2)] g) rfl ?_
  rw [h]
  clear h
  rcases (show e = 0 ∨ e = 1 ∨ e = 2 ∨ e = 3 ∨ e = 4 ∨ e = 5 ∨ e = 6 ∨ e = 7 ∨ e = 8 ∨ e = 9 ∨ e = 10 ∨ e = 11 by omega) with rfl | rfl | rfl | rfl | rfl | rfl | rfl | rfl | rfl | rfl | rfl | rfl <;> exact rfl
theorem ps2_7_0_2 {D F e : Nat} {x3 x4 : AV} {g : Vw} (he : e < 12) (h : g 23 2 = e) : vFn (vM MT0 D) nb_X9_payStaff (F + 1) 2 0 [vR 7, vR 22, vI 2, x3, x4] [] g = vc3 (bv (g 22 4)) (bv (g_imul (g 22 3) (g (7 + 3 + e) 2))) (vFn (vM MT0 D) nb_X9_payStaff F 4 0 [vR 7, vR 22, vI 2, vR (7 + 3 + e), vI (g_imul (g 22 3) (g (7 + 3 + e) 2))] [] g) (vFn (vM MT0 D) nb_X9_payStaff F 3 0 [vR 7, vR 22, vI 2, vR (7 + 3 + e), vI (g_imul (g 22 3) (g (7 + 3 + e) 2))] [] g) (vFn (vM MT0 D) nb_X9_payStaff F 3 0 [vR 7, vR 22, vI 2, vR (7 + 3 + e), vI (g_imul (g 22 3) (g (7 + 3 + e) 2))] [] g) := by
  refine (vF_g rfl rfl).trans ?_
  refine Eq.trans (b := vB (vM MT0 D) (vFn (vM MT0 D) nb_X9_payStaff F) ps2T ps2R 0 [vR 7, vR 22, vI 2, x3, x4] [vI (g 23 2), vR 8] g) rfl ?_
  rw [h]
  clear h
  rcases (show e = 0 ∨ e = 1 ∨ e = 2 ∨ e = 3 ∨ e = 4 ∨ e = 5 ∨ e = 6 ∨ e = 7 ∨ e = 8 ∨ e = 9 ∨ e = 10 ∨ e = 11 by omega) with rfl | rfl | rfl | rfl | rfl | rfl | rfl | rfl | rfl | rfl | rfl | rfl <;> exact rfl
theorem hr1l_7_0 {D F i r : Nat} {x4 : AV} {g : Vw} (h : i < g 22 6) (h3 : g 22 6 ≤ 3) : vFn (vM MT0 D) nb_X9_hearReplies (F + 1) 1 0 [vR 7, vR 22, vI r, vI i, x4] [] g = vFn (vM MT0 D) nb_X9_hearReplies F 2 0 [vR 7, vR 22, vI r, vI i, x4] [] g := by
  refine (vF_g rfl rfl).trans ?_
  refine (vlt (x := i) (y := g 22 6) (by omega) h).trans ?_
  exact rfl
theorem hr1g_7_0 {D F i r : Nat} {x4 : AV} {g : Vw} (h : g 22 6 ≤ i) (h3 : i ≤ 3) : vFn (vM MT0 D) nb_X9_hearReplies (F + 1) 1 0 [vR 7, vR 22, vI r, vI i, x4] [] g = vFn (vM MT0 D) nb_X9_hearReplies F 3 0 [vR 7, vR 22, vI r, vI i, x4] [] g := by
  refine (vF_g rfl rfl).trans ?_
  refine (vge2 (x := i) (y := g 22 6) (by omega) h).trans ?_
  exact rfl
theorem hr3_7_0 {D F r : Nat} {x3 x4 : AV} {g : Vw} : vFn (vM MT0 D) nb_X9_hearReplies (F + 1) 3 0 [vR 7, vR 22, vI r, x3, x4] [] g = some ((1, 0), vW 3, hrE 7 22 r g) := by
  refine (vF_g rfl rfl).trans ?_
  exact rfl
theorem hrL_7_0 {D : Nat} {f : Vw} (h3 : f 22 6 ≤ 3) (hm : ∀ i, i < f 22 6 → f 23 i < 12) : ∀ (m i r F : Nat) (x4 : AV) (g : Vw), i + m = f 22 6 → (∀ a b, a ≠ 7 + 17 + 3 * 0 → g a b = f a b) → ∃ (r' i' : Nat) (y4 : AV) (g' : Vw), vFn (vM MT0 D) nb_X9_hearReplies (F + 2 * m + 1) 1 0 [vR 7, vR 22, vI r, vI i, x4] [] g = vFn (vM MT0 D) nb_X9_hearReplies F 3 0 [vR 7, vR 22, vI r', vI i', y4] [] g' ∧ ∀ a b, a ≠ 7 + 17 + 3 * 0 → g' a b = f a b := by
  intro m
  induction m with
  | zero =>
    intro i r F x4 g hi hg
    have e6 := hg 22 6 (by decide)
    rw [show F + 2 * 0 + 1 = F + 1 by omega]
    exact ⟨r, i, x4, g, hr1g_7_0 (by omega) (by omega), hg⟩
  | succ m ih =>
    intro i r F x4 g hi hg
    have e6 := hg 22 6 (by decide)
    have e1 := hg 23 i (by decide)
    have he := hm i (by omega)
    have hs : ∀ r9 : Nat, vFn (vM MT0 D) nb_X9_hearReplies (F + 2 * m + 1 + 1) 2 0 [vR 7, vR 22, vI r, vI i, x4] [] g = vFn (vM MT0 D) nb_X9_hearReplies (F + 2 * m + 1) 1 0 [vR 7, vR 22, vI ((r + g (7 + 3 + f 23 i) 2) % 4294967296), vI (i + 1), vI (f 23 i)] [] (vup g (7 + 17 + 3 * 0) (f 23 i) ((g (7 + 17 + 3 * 0) (f 23 i) + 1) % 4294967296)) := fun _ => by
      rcases (show i = 0 ∨ i = 1 ∨ i = 2 by omega) with q | q | q
      · subst q; exact hr2_7_0_0 he e1
      · subst q; exact hr2_7_0_1 he e1
      · subst q; exact hr2_7_0_2 he e1
    obtain ⟨r', i', y4, g', k1, k2⟩ := ih (i + 1) ((r + g (7 + 3 + f 23 i) 2) % 4294967296) F (vI (f 23 i)) (vup g (7 + 17 + 3 * 0) (f 23 i) ((g (7 + 17 + 3 * 0) (f 23 i) + 1) % 4294967296)) (by omega) (fun a b h => (vup_ne (Or.inl h)).trans (hg a b h))
    refine ⟨r', i', y4, g', ?_, k2⟩
    rw [show F + 2 * (m + 1) + 1 = F + 2 * m + 1 + 1 + 1 by omega]
    exact (hr1l_7_0 (by omega) (by omega)).trans ((hs 0).trans k1)
theorem hr_7_0 {D : Nat} {f : Vw} (hj : 0 < f 7 3) (h8 : f 7 3 ≤ 8) (h2 : f 7 2 ≤ 12) (h3 : f 22 6 ≤ 3) (hm : ∀ i, i < f 22 6 → f 23 i < 12) : ∃ g, vM MT0 (D + 1) 89 [vR 7, vR 22] f = some ((1, 0), vW 3, g) ∧ WkR 7 f g := by
  obtain ⟨F, hF, go⟩ := vM_at (D := D) (y := 89) (as := [vR 7, vR 22]) (f := f) rfl rfl rfl rfl
  obtain ⟨r', i', y4, g', k1, k2⟩ := hrL_7_0 (D := D) h3 hm (f 22 6) 0 0 (F + 57 - 2 * f 22 6 + 1) (vW 3) f (by omega) (fun _ _ _ => rfl)
  rw [show F + 57 - 2 * f 22 6 + 1 + 2 * f 22 6 + 1 = F + 59 by omega] at k1
  have e0 : vFn (vM MT0 D) nb_X9_hearReplies (F + 60) 0 0 (iniL 5 [vR 7, vR 22]) [] f = vFn (vM MT0 D) nb_X9_hearReplies (F + 59) 1 0 [vR 7, vR 22, vI 0, vI 0, vW 3] [] f := by
    refine (vF_g rfl rfl).trans ?_
    exact rfl
  exact ⟨_, go _ (e0.trans (k1.trans hr3_7_0)), hr_R hj h8 k2 h2⟩
theorem ps1l_7_0 {D F i : Nat} {x3 x4 : AV} {g : Vw} (h : i < g 22 6) (h3 : g 22 6 ≤ 3) : vFn (vM MT0 D) nb_X9_payStaff (F + 1) 1 0 [vR 7, vR 22, vI i, x3, x4] [] g = vFn (vM MT0 D) nb_X9_payStaff F 2 0 [vR 7, vR 22, vI i, x3, x4] [] g := by
  refine (vF_g rfl rfl).trans ?_
  refine (vlt (x := i) (y := g 22 6) (by omega) h).trans ?_
  exact rfl
theorem ps1g_7_0 {D F i : Nat} {x3 x4 : AV} {g : Vw} (h : g 22 6 ≤ i) (h3 : i ≤ 3) : vFn (vM MT0 D) nb_X9_payStaff (F + 2) 1 0 [vR 7, vR 22, vI i, x3, x4] [] g = some ((1, 0), vW 3, g) := by
  refine (vF_g rfl rfl).trans ?_
  refine (vge2 (x := i) (y := g 22 6) (by omega) h).trans ?_
  refine (vF_g rfl rfl).trans ?_
  exact rfl
theorem ps3_7_0 {D F i e p : Nat} {g : Vw} (he : e < 12) (hi : i < 3) : vFn (vM MT0 D) nb_X9_payStaff (F + 2) 3 0 [vR 7, vR 22, vI i, vR (7 + 3 + e), vI p] [] g = vFn (vM MT0 D) nb_X9_payStaff F 1 0 [vR 7, vR 22, vI (i + 1), vR (7 + 3 + e), vI p] [] (psE 22 (7 + 3 + e) p g) := by
  rcases (show i = 0 ∨ i = 1 ∨ i = 2 by omega) with q | q | q <;> subst q <;> rcases (show e = 0 ∨ e = 1 ∨ e = 2 ∨ e = 3 ∨ e = 4 ∨ e = 5 ∨ e = 6 ∨ e = 7 ∨ e = 8 ∨ e = 9 ∨ e = 10 ∨ e = 11 by omega) with rfl | rfl | rfl | rfl | rfl | rfl | rfl | rfl | rfl | rfl | rfl | rfl <;> (refine (vF_g rfl rfl).trans ?_; refine (vF_g rfl rfl).trans ?_; exact rfl)
theorem ps4_7_0 {D F i e p : Nat} {g : Vw} (he : e < 12) (hi : i < 3) : vFn (vM MT0 D) nb_X9_payStaff (F + 2) 4 0 [vR 7, vR 22, vI i, vR (7 + 3 + e), vI p] [] g = vFn (vM MT0 D) nb_X9_payStaff F 1 0 [vR 7, vR 22, vI (i + 1), vR (7 + 3 + e), vI p] [] (vup g (7 + 3 + e) 6 ((g (7 + 3 + e) 6 + 1) % 4294967296)) := by
  rcases (show i = 0 ∨ i = 1 ∨ i = 2 by omega) with q | q | q <;> subst q <;> rcases (show e = 0 ∨ e = 1 ∨ e = 2 ∨ e = 3 ∨ e = 4 ∨ e = 5 ∨ e = 6 ∨ e = 7 ∨ e = 8 ∨ e = 9 ∨ e = 10 ∨ e = 11 by omega) with rfl | rfl | rfl | rfl | rfl | rfl | rfl | rfl | rfl | rfl | rfl | rfl <;> (refine (vF_g rfl rfl).trans ?_; refine (vF_g rfl rfl).trans ?_; exact rfl)
theorem psL_7_0 {D : Nat} {f : Vw} (hj : 0 < f 7 3) (h8 : f 7 3 ≤ 8) (h2 : f 7 2 ≤ 12) (h3 : f 22 6 ≤ 3) (hm : ∀ i, i < f 22 6 → f 23 i < f 7 2) : ∀ (m i F : Nat) (x3 x4 : AV) (g : Vw), i + m = f 22 6 → WkR 7 f g → ∃ g' : Vw, vFn (vM MT0 D) nb_X9_payStaff (F + 4 * m + 2) 1 0 [vR 7, vR 22, vI i, x3, x4] [] g = some ((1, 0), vW 3, g') ∧ WkR 7 f g' := by
  intro m
  induction m with
  | zero =>
    intro i F x3 x4 g hi hg
    have e6 : g 22 6 = f 22 6 := hg.2 22 6 (Or.inr (Or.inr (Or.inr (Or.inr ⟨0, by decide, Or.inl ⟨by decide, by decide, by decide, by decide⟩⟩))))
    rw [show F + 4 * 0 + 2 = F + 2 by omega]
    exact ⟨g, ps1g_7_0 (by omega) (by omega), hg⟩
  | succ m ih =>
    intro i F x3 x4 g hi hg
    have e6 : g 22 6 = f 22 6 := hg.2 22 6 (Or.inr (Or.inr (Or.inr (Or.inr ⟨0, by decide, Or.inl ⟨by decide, by decide, by decide, by decide⟩⟩))))
    have e1 : g 23 i = f 23 i := hg.2 23 i (Or.inr (Or.inr (Or.inr (Or.inr ⟨0, by decide, Or.inr (by decide)⟩))))
    have e2 : g 7 2 = f 7 2 := hg.2 7 2 (Or.inr (Or.inr (Or.inl ⟨rfl, by decide⟩)))
    have e3 : g 7 3 = f 7 3 := hg.2 7 3 (Or.inr (Or.inr (Or.inl ⟨rfl, by decide⟩)))
    have he := hm i (by omega)
    have he9 : f 23 i < 12 := by omega
    have hi3 : i < 3 := by omega
    rw [show F + 4 * (m + 1) + 2 = F + 4 * m + 2 + 2 + 1 + 1 by omega]
    have hs : ∃ G : Vw, vFn (vM MT0 D) nb_X9_payStaff (F + 4 * m + 2 + 2 + 1) 2 0 [vR 7, vR 22, vI i, x3, x4] [] g = vFn (vM MT0 D) nb_X9_payStaff (F + 4 * m + 2) 1 0 [vR 7, vR 22, vI (i + 1), vR (7 + 3 + f 23 i), vI (g_imul (g 22 3) (g (7 + 3 + f 23 i) 2))] [] G ∧ WkR 7 g G := by
      have hc := (show vFn (vM MT0 D) nb_X9_payStaff (F + 4 * m + 2 + 2 + 1) 2 0 [vR 7, vR 22, vI i, x3, x4] [] g = vc3 (bv (g 22 4)) (bv (g_imul (g 22 3) (g (7 + 3 + f 23 i) 2))) (vFn (vM MT0 D) nb_X9_payStaff (F + 4 * m + 2 + 2) 4 0 [vR 7, vR 22, vI i, vR (7 + 3 + f 23 i), vI (g_imul (g 22 3) (g (7 + 3 + f 23 i) 2))] [] g) (vFn (vM MT0 D) nb_X9_payStaff (F + 4 * m + 2 + 2) 3 0 [vR 7, vR 22, vI i, vR (7 + 3 + f 23 i), vI (g_imul (g 22 3) (g (7 + 3 + f 23 i) 2))] [] g) (vFn (vM MT0 D) nb_X9_payStaff (F + 4 * m + 2 + 2) 3 0 [vR 7, vR 22, vI i, vR (7 + 3 + f 23 i), vI (g_imul (g 22 3) (g (7 + 3 + f 23 i) 2))] [] g) from by
        rcases (show i = 0 ∨ i = 1 ∨ i = 2 by omega) with q | q | q
        · subst q; exact ps2_7_0_0 he9 e1
        · subst q; exact ps2_7_0_1 he9 e1
        · subst q; exact ps2_7_0_2 he9 e1)
      rcases vc3_or (u := bv (g 22 4)) (w := bv (g_imul (g 22 3) (g (7 + 3 + f 23 i) 2))) (a := vFn (vM MT0 D) nb_X9_payStaff (F + 4 * m + 2 + 2) 4 0 [vR 7, vR 22, vI i, vR (7 + 3 + f 23 i), vI (g_imul (g 22 3) (g (7 + 3 + f 23 i) 2))] [] g) (b := vFn (vM MT0 D) nb_X9_payStaff (F + 4 * m + 2 + 2) 3 0 [vR 7, vR 22, vI i, vR (7 + 3 + f 23 i), vI (g_imul (g 22 3) (g (7 + 3 + f 23 i) 2))] [] g) with q | q
      · exact ⟨_, hc.trans (q.trans (ps4_7_0 he9 hi3)), un_R (j := 0) (by omega) (by omega) (by omega)⟩
      · exact ⟨_, hc.trans (q.trans (ps3_7_0 he9 hi3)), ps_R (j := 0) (by omega) (by omega) (by omega) (by omega)⟩
    obtain ⟨G, s1, s2⟩ := hs
    obtain ⟨g', k1, k2⟩ := ih (i + 1) F (vR (7 + 3 + f 23 i)) (vI (g_imul (g 22 3) (g (7 + 3 + f 23 i) 2))) G (by omega) (wkR_tr hg s2)
    exact ⟨g', (ps1l_7_0 (by omega) (by omega)).trans (s1.trans k1), k2⟩
theorem ps_7_0 {D : Nat} {f : Vw} (hj : 0 < f 7 3) (h8 : f 7 3 ≤ 8) (h2 : f 7 2 ≤ 12) (h3 : f 22 6 ≤ 3) (hm : ∀ i, i < f 22 6 → f 23 i < f 7 2) : ∃ g, vM MT0 (D + 1) 90 [vR 7, vR 22] f = some ((1, 0), vW 3, g) ∧ WkR 7 f g := by
  obtain ⟨F, hF, go⟩ := vM_at (D := D) (y := 90) (as := [vR 7, vR 22]) (f := f) rfl rfl rfl rfl
  obtain ⟨g', k1, k2⟩ := psL_7_0 (D := D) hj h8 h2 h3 hm (f 22 6) 0 (F + 57 - 4 * f 22 6) (vW 3) (vW 3) f (by omega) wkR_rf
  rw [show F + 57 - 4 * f 22 6 + 4 * f 22 6 + 2 = F + 59 by omega] at k1
  have e0 : vFn (vM MT0 D) nb_X9_payStaff (F + 60) 0 0 (iniL 5 [vR 7, vR 22]) [] f = vFn (vM MT0 D) nb_X9_payStaff (F + 59) 1 0 [vR 7, vR 22, vI 0, vW 3, vW 3] [] f := by
    refine (vF_g rfl rfl).trans ?_
    exact rfl
  exact ⟨g', go _ (e0.trans k1), k2⟩
theorem hr2_7_1_0 {D F e r : Nat} {x4 : AV} {g : Vw} (he : e < 12) (h : g 26 0 = e) : vFn (vM MT0 D) nb_X9_hearReplies (F + 1) 2 0 [vR 7, vR 25, vI r, vI 0, x4] [] g = vFn (vM MT0 D) nb_X9_hearReplies F 1 0 [vR 7, vR 25, vI ((r + g (7 + 3 + e) 2) % 4294967296), vI (0 + 1), vI e] [] (vup g (7 + 17 + 3 * 1) e ((g (7 + 17 + 3 * 1) e + 1) % 4294967296)) := by
  refine (vF_g rfl rfl).trans ?_
  refine Eq.trans (b := vB (vM MT0 D) (vFn (vM MT0 D) nb_X9_hearReplies F) hr2T hr2R 0 [vR 7, vR 25, vI r, vI 0, x4] [vI (g 26 0)] g) rfl ?_
  rw [h]
  clear h
  rcases (show e = 0 ∨ e = 1 ∨ e = 2 ∨ e = 3 ∨ e = 4 ∨ e = 5 ∨ e = 6 ∨ e = 7 ∨ e = 8 ∨ e = 9 ∨ e = 10 ∨ e = 11 by omega) with rfl | rfl | rfl | rfl | rfl | rfl | rfl | rfl | rfl | rfl | rfl | rfl <;> exact rfl
theorem ps2_7_1_0 {D F e : Nat} {x3 x4 : AV} {g : Vw} (he : e < 12) (h : g 26 0 = e) : vFn (vM MT0 D) nb_X9_payStaff (F + 1) 2 0 [vR 7, vR 25, vI 0, x3, x4] [] g = vc3 (bv (g 25 4)) (bv (g_imul (g 25 3) (g (7 + 3 + e) 2))) (vFn (vM MT0 D) nb_X9_payStaff F 4 0 [vR 7, vR 25, vI 0, vR (7 + 3 + e), vI (g_imul (g 25 3) (g (7 + 3 + e) 2))] [] g) (vFn (vM MT0 D) nb_X9_payStaff F 3 0 [vR 7, vR 25, vI 0, vR (7 + 3 + e), vI (g_imul (g 25 3) (g (7 + 3 + e) 2))] [] g) (vFn (vM MT0 D) nb_X9_payStaff F 3 0 [vR 7, vR 25, vI 0, vR (7 + 3 + e), vI (g_imul (g 25 3) (g (7 + 3 + e) 2))] [] g) := by
  refine (vF_g rfl rfl).trans ?_
  refine Eq.trans (b := vB (vM MT0 D) (vFn (vM MT0 D) nb_X9_payStaff F) ps2T ps2R 0 [vR 7, vR 25, vI 0, x3, x4] [vI (g 26 0), vR 8] g) rfl ?_
  rw [h]
  clear h
  rcases (show e = 0 ∨ e = 1 ∨ e = 2 ∨ e = 3 ∨ e = 4 ∨ e = 5 ∨ e = 6 ∨ e = 7 ∨ e = 8 ∨ e = 9 ∨ e = 10 ∨ e = 11 by omega) with rfl | rfl | rfl | rfl | rfl | rfl | rfl | rfl | rfl | rfl | rfl | rfl <;> exact rfl
theorem hr2_7_1_1 {D F e r : Nat} {x4 : AV} {g : Vw} (he : e < 12) (h : g 26 1 = e) : vFn (vM MT0 D) nb_X9_hearReplies (F + 1) 2 0 [vR 7, vR 25, vI r, vI 1, x4] [] g = vFn (vM MT0 D) nb_X9_hearReplies F 1 0 [vR 7, vR 25, vI ((r + g (7 + 3 + e) 2) % 4294967296), vI (1 + 1), vI e] [] (vup g (7 + 17 + 3 * 1) e ((g (7 + 17 + 3 * 1) e + 1) % 4294967296)) := by
  refine (vF_g rfl rfl).trans ?_
  refine Eq.trans (b := vB (vM MT0 D) (vFn (vM MT0 D) nb_X9_hearReplies F) hr2T hr2R 0 [vR 7, vR 25, vI r, vI 1, x4] [vI (g 26 1)] g) rfl ?_
  rw [h]
  clear h
  rcases (show e = 0 ∨ e = 1 ∨ e = 2 ∨ e = 3 ∨ e = 4 ∨ e = 5 ∨ e = 6 ∨ e = 7 ∨ e = 8 ∨ e = 9 ∨ e = 10 ∨ e = 11 by omega) with rfl | rfl | rfl | rfl | rfl | rfl | rfl | rfl | rfl | rfl | rfl | rfl <;> exact rfl
theorem ps2_7_1_1 {D F e : Nat} {x3 x4 : AV} {g : Vw} (he : e < 12) (h : g 26 1 = e) : vFn (vM MT0 D) nb_X9_payStaff (F + 1) 2 0 [vR 7, vR 25, vI 1, x3, x4] [] g = vc3 (bv (g 25 4)) (bv (g_imul (g 25 3) (g (7 + 3 + e) 2))) (vFn (vM MT0 D) nb_X9_payStaff F 4 0 [vR 7, vR 25, vI 1, vR (7 + 3 + e), vI (g_imul (g 25 3) (g (7 + 3 + e) 2))] [] g) (vFn (vM MT0 D) nb_X9_payStaff F 3 0 [vR 7, vR 25, vI 1, vR (7 + 3 + e), vI (g_imul (g 25 3) (g (7 + 3 + e) 2))] [] g) (vFn (vM MT0 D) nb_X9_payStaff F 3 0 [vR 7, vR 25, vI 1, vR (7 + 3 + e), vI (g_imul (g 25 3) (g (7 + 3 + e) 2))] [] g) := by
  refine (vF_g rfl rfl).trans ?_
  refine Eq.trans (b := vB (vM MT0 D) (vFn (vM MT0 D) nb_X9_payStaff F) ps2T ps2R 0 [vR 7, vR 25, vI 1, x3, x4] [vI (g 26 1), vR 8] g) rfl ?_
  rw [h]
  clear h
  rcases (show e = 0 ∨ e = 1 ∨ e = 2 ∨ e = 3 ∨ e = 4 ∨ e = 5 ∨ e = 6 ∨ e = 7 ∨ e = 8 ∨ e = 9 ∨ e = 10 ∨ e = 11 by omega) with rfl | rfl | rfl | rfl | rfl | rfl | rfl | rfl | rfl | rfl | rfl | rfl <;> exact rfl
theorem hr2_7_1_2 {D F e r : Nat} {x4 : AV} {g : Vw} (he : e < 12) (h : g 26 2 = e) : vFn (vM MT0 D) nb_X9_hearReplies (F + 1) 2 0 [vR 7, vR 25, vI r, vI 2, x4] [] g = vFn (vM MT0 D) nb_X9_hearReplies F 1 0 [vR 7, vR 25, vI ((r + g (7 + 3 + e) 2) % 4294967296), vI (2 + 1), vI e] [] (vup g (7 + 17 + 3 * 1) e ((g (7 + 17 + 3 * 1) e + 1) % 4294967296)) := by
  refine (vF_g rfl rfl).trans ?_
  refine Eq.trans (b := vB (vM MT0 D) (vFn (vM MT0 D) nb_X9_hearReplies F) hr2T hr2R 0 [vR 7, vR 25, vI r, vI 2, x4] [vI (g 26 2)] g) rfl ?_
  rw [h]
  clear h
  rcases (show e = 0 ∨ e = 1 ∨ e = 2 ∨ e = 3 ∨ e = 4 ∨ e = 5 ∨ e = 6 ∨ e = 7 ∨ e = 8 ∨ e = 9 ∨ e = 10 ∨ e = 11 by omega) with rfl | rfl | rfl | rfl | rfl | rfl | rfl | rfl | rfl | rfl | rfl | rfl <;> exact rfl
theorem ps2_7_1_2 {D F e : Nat} {x3 x4 : AV} {g : Vw} (he : e < 12) (h : g 26 2 = e) : vFn (vM MT0 D) nb_X9_payStaff (F + 1) 2 0 [vR 7, vR 25, vI 2, x3, x4] [] g = vc3 (bv (g 25 4)) (bv (g_imul (g 25 3) (g (7 + 3 + e) 2))) (vFn (vM MT0 D) nb_X9_payStaff F 4 0 [vR 7, vR 25, vI 2, vR (7 + 3 + e), vI (g_imul (g 25 3) (g (7 + 3 + e) 2))] [] g) (vFn (vM MT0 D) nb_X9_payStaff F 3 0 [vR 7, vR 25, vI 2, vR (7 + 3 + e), vI (g_imul (g 25 3) (g (7 + 3 + e) 2))] [] g) (vFn (vM MT0 D) nb_X9_payStaff F 3 0 [vR 7, vR 25, vI 2, vR (7 + 3 + e), vI (g_imul (g 25 3) (g (7 + 3 + e) 2))] [] g) := by
  refine (vF_g rfl rfl).trans ?_
  refine Eq.trans (b := vB (vM MT0 D) (vFn (vM MT0 D) nb_X9_payStaff F) ps2T ps2R 0 [vR 7, vR 25, vI 2, x3, x4] [vI (g 26 2), vR 8] g) rfl ?_
  rw [h]
  clear h
  rcases (show e = 0 ∨ e = 1 ∨ e = 2 ∨ e = 3 ∨ e = 4 ∨ e = 5 ∨ e = 6 ∨ e = 7 ∨ e = 8 ∨ e = 9 ∨ e = 10 ∨ e = 11 by omega) with rfl | rfl | rfl | rfl | rfl | rfl | rfl | rfl | rfl | rfl | rfl | rfl <;> exact rfl
theorem hr1l_7_1 {D F i r : Nat} {x4 : AV} {g : Vw} (h : i < g 25 6) (h3 : g 25 6 ≤ 3) : vFn (vM MT0 D) nb_X9_hearReplies (F + 1) 1 0 [vR 7, vR 25, vI r, vI i, x4] [] g = vFn (vM MT0 D) nb_X9_hearReplies F 2 0 [vR 7, vR 25, vI r, vI i, x4] [] g := by
  refine (vF_g rfl rfl).trans ?_
  refine (vlt (x := i) (y := g 25 6) (by omega) h).trans ?_
  exact rfl
theorem hr1g_7_1 {D F i r : Nat} {x4 : AV} {g : Vw} (h : g 25 6 ≤ i) (h3 : i ≤ 3) : vFn (vM MT0 D) nb_X9_hearReplies (F + 1) 1 0 [vR 7, vR 25, vI r, vI i, x4] [] g = vFn (vM MT0 D) nb_X9_hearReplies F 3 0 [vR 7, vR 25, vI r, vI i, x4] [] g := by
  refine (vF_g rfl rfl).trans ?_
  refine (vge2 (x := i) (y := g 25 6) (by omega) h).trans ?_
  exact rfl
theorem hr3_7_1 {D F r : Nat} {x3 x4 : AV} {g : Vw} : vFn (vM MT0 D) nb_X9_hearReplies (F + 1) 3 0 [vR 7, vR 25, vI r, x3, x4] [] g = some ((1, 0), vW 3, hrE 7 25 r g) := by
  refine (vF_g rfl rfl).trans ?_
  exact rfl
theorem hrL_7_1 {D : Nat} {f : Vw} (h3 : f 25 6 ≤ 3) (hm : ∀ i, i < f 25 6 → f 26 i < 12) : ∀ (m i r F : Nat) (x4 : AV) (g : Vw), i + m = f 25 6 → (∀ a b, a ≠ 7 + 17 + 3 * 1 → g a b = f a b) → ∃ (r' i' : Nat) (y4 : AV) (g' : Vw), vFn (vM MT0 D) nb_X9_hearReplies (F + 2 * m + 1) 1 0 [vR 7, vR 25, vI r, vI i, x4] [] g = vFn (vM MT0 D) nb_X9_hearReplies F 3 0 [vR 7, vR 25, vI r', vI i', y4] [] g' ∧ ∀ a b, a ≠ 7 + 17 + 3 * 1 → g' a b = f a b := by
  intro m
  induction m with
  | zero =>
    intro i r F x4 g hi hg
    have e6 := hg 25 6 (by decide)
    rw [show F + 2 * 0 + 1 = F + 1 by omega]
    exact ⟨r, i, x4, g, hr1g_7_1 (by omega) (by omega), hg⟩
  | succ m ih =>
    intro i r F x4 g hi hg
    have e6 := hg 25 6 (by decide)
    have e1 := hg 26 i (by decide)
    have he := hm i (by omega)
    have hs : ∀ r9 : Nat, vFn (vM MT0 D) nb_X9_hearReplies (F + 2 * m + 1 + 1) 2 0 [vR 7, vR 25, vI r, vI i, x4] [] g = vFn (vM MT0 D) nb_X9_hearReplies (F + 2 * m + 1) 1 0 [vR 7, vR 25, vI ((r + g (7 + 3 + f 26 i) 2) % 4294967296), vI (i + 1), vI (f 26 i)] [] (vup g (7 + 17 + 3 * 1) (f 26 i) ((g (7 + 17 + 3 * 1) (f 26 i) + 1) % 4294967296)) := fun _ => by
      rcases (show i = 0 ∨ i = 1 ∨ i = 2 by omega) with q | q | q
      · subst q; exact hr2_7_1_0 he e1
      · subst q; exact hr2_7_1_1 he e1
      · subst q; exact hr2_7_1_2 he e1
    obtain ⟨r', i', y4, g', k1, k2⟩ := ih (i + 1) ((r + g (7 + 3 + f 26 i) 2) % 4294967296) F (vI (f 26 i)) (vup g (7 + 17 + 3 * 1) (f 26 i) ((g (7 + 17 + 3 * 1) (f 26 i) + 1) % 4294967296)) (by omega) (fun a b h => (vup_ne (Or.inl h)).trans (hg a b h))
    refine ⟨r', i', y4, g', ?_, k2⟩
    rw [show F + 2 * (m + 1) + 1 = F + 2 * m + 1 + 1 + 1 by omega]
    exact (hr1l_7_1 (by omega) (by omega)).trans ((hs 0).trans k1)
theorem hr_7_1 {D : Nat} {f : Vw} (hj : 1 < f 7 3) (h8 : f 7 3 ≤ 8) (h2 : f 7 2 ≤ 12) (h3 : f 25 6 ≤ 3) (hm : ∀ i, i < f 25 6 → f 26 i < 12) : ∃ g, vM MT0 (D + 1) 89 [vR 7, vR 25] f = some ((1, 0), vW 3, g) ∧ WkR 7 f g := by
  obtain ⟨F, hF, go⟩ := vM_at (D := D) (y := 89) (as := [vR 7, vR 25]) (f := f) rfl rfl rfl rfl
  obtain ⟨r', i', y4, g', k1, k2⟩ := hrL_7_1 (D := D) h3 hm (f 25 6) 0 0 (F + 57 - 2 * f 25 6 + 1) (vW 3) f (by omega) (fun _ _ _ => rfl)
  rw [show F + 57 - 2 * f 25 6 + 1 + 2 * f 25 6 + 1 = F + 59 by omega] at k1
  have e0 : vFn (vM MT0 D) nb_X9_hearReplies (F + 60) 0 0 (iniL 5 [vR 7, vR 25]) [] f = vFn (vM MT0 D) nb_X9_hearReplies (F + 59) 1 0 [vR 7, vR 25, vI 0, vI 0, vW 3] [] f := by
    refine (vF_g rfl rfl).trans ?_
    exact rfl
  exact ⟨_, go _ (e0.trans (k1.trans hr3_7_1)), hr_R hj h8 k2 h2⟩
theorem ps1l_7_1 {D F i : Nat} {x3 x4 : AV} {g : Vw} (h : i < g 25 6) (h3 : g 25 6 ≤ 3) : vFn (vM MT0 D) nb_X9_payStaff (F + 1) 1 0 [vR 7, vR 25, vI i, x3, x4] [] g = vFn (vM MT0 D) nb_X9_payStaff F 2 0 [vR 7, vR 25, vI i, x3, x4] [] g := by
  refine (vF_g rfl rfl).trans ?_
  refine (vlt (x := i) (y := g 25 6) (by omega) h).trans ?_
  exact rfl
theorem ps1g_7_1 {D F i : Nat} {x3 x4 : AV} {g : Vw} (h : g 25 6 ≤ i) (h3 : i ≤ 3) : vFn (vM MT0 D) nb_X9_payStaff (F + 2) 1 0 [vR 7, vR 25, vI i, x3, x4] [] g = some ((1, 0), vW 3, g) := by
  refine (vF_g rfl rfl).trans ?_
  refine (vge2 (x := i) (y := g 25 6) (by omega) h).trans ?_
  refine (vF_g rfl rfl).trans ?_
  exact rfl
theorem ps3_7_1 {D F i e p : Nat} {g : Vw} (he : e < 12) (hi : i < 3) : vFn (vM MT0 D) nb_X9_payStaff (F + 2) 3 0 [vR 7, vR 25, vI i, vR (7 + 3 + e), vI p] [] g = vFn (vM MT0 D) nb_X9_payStaff F 1 0 [vR 7, vR 25, vI (i + 1), vR (7 + 3 + e), vI p] [] (psE 25 (7 + 3 + e) p g) := by
  rcases (show i = 0 ∨ i = 1 ∨ i = 2 by omega) with q | q | q <;> subst q <;> rcases (show e = 0 ∨ e = 1 ∨ e = 2 ∨ e = 3 ∨ e = 4 ∨ e = 5 ∨ e = 6 ∨ e = 7 ∨ e = 8 ∨ e = 9 ∨ e = 10 ∨ e = 11 by omega) with rfl | rfl | rfl | rfl | rfl | rfl | rfl | rfl | rfl | rfl | rfl | rfl <;> (refine (vF_g rfl rfl).trans ?_; refine (vF_g rfl rfl).trans ?_; exact rfl)
theorem ps4_7_1 {D F i e p : Nat} {g : Vw} (he : e < 12) (hi : i < 3) : vFn (vM MT0 D) nb_X9_payStaff (F + 2) 4 0 [vR 7, vR 25, vI i, vR (7 + 3 + e), vI p] [] g = vFn (vM MT0 D) nb_X9_payStaff F 1 0 [vR 7, vR 25, vI (i + 1), vR (7 + 3 + e), vI p] [] (vup g (7 + 3 + e) 6 ((g (7 + 3 + e) 6 + 1) % 4294967296)) := by
  rcases (show i = 0 ∨ i = 1 ∨ i = 2 by omega) with q | q | q <;> subst q <;> rcases (show e = 0 ∨ e = 1 ∨ e = 2 ∨ e = 3 ∨ e = 4 ∨ e = 5 ∨ e = 6 ∨ e = 7 ∨ e = 8 ∨ e = 9 ∨ e = 10 ∨ e = 11 by omega) with rfl | rfl | rfl | rfl | rfl | rfl | rfl | rfl | rfl | rfl | rfl | rfl <;> (refine (vF_g rfl rfl).trans ?_; refine (vF_g rfl rfl).trans ?_; exact rfl)
theorem psL_7_1 {D : Nat} {f : Vw} (hj : 1 < f 7 3) (h8 : f 7 3 ≤ 8) (h2 : f 7 2 ≤ 12) (h3 : f 25 6 ≤ 3) (hm : ∀ i, i < f 25 6 → f 26 i < f 7 2) : ∀ (m i F : Nat) (x3 x4 : AV) (g : Vw), i + m = f 25 6 → WkR 7 f g → ∃ g' : Vw, vFn (vM MT0 D) nb_X9_payStaff (F + 4 * m + 2) 1 0 [vR 7, vR 25, vI i, x3, x4] [] g = some ((1, 0), vW 3, g') ∧ WkR 7 f g' := by
  intro m
  induction m with
  | zero =>
    intro i F x3 x4 g hi hg
    have e6 : g 25 6 = f 25 6 := hg.2 25 6 (Or.inr (Or.inr (Or.inr (Or.inr ⟨1, by decide, Or.inl ⟨by decide, by decide, by decide, by decide⟩⟩))))
    rw [show F + 4 * 0 + 2 = F + 2 by omega]
    exact ⟨g, ps1g_7_1 (by omega) (by omega), hg⟩
  | succ m ih =>
    intro i F x3 x4 g hi hg
    have e6 : g 25 6 = f 25 6 := hg.2 25 6 (Or.inr (Or.inr (Or.inr (Or.inr ⟨1, by decide, Or.inl ⟨by decide, by decide, by decide, by decide⟩⟩))))
    have e1 : g 26 i = f 26 i := hg.2 26 i (Or.inr (Or.inr (Or.inr (Or.inr ⟨1, by decide, Or.inr (by decide)⟩))))
    have e2 : g 7 2 = f 7 2 := hg.2 7 2 (Or.inr (Or.inr (Or.inl ⟨rfl, by decide⟩)))
    have e3 : g 7 3 = f 7 3 := hg.2 7 3 (Or.inr (Or.inr (Or.inl ⟨rfl, by decide⟩)))
    have he := hm i (by omega)
    have he9 : f 26 i < 12 := by omega
    have hi3 : i < 3 := by omega
    rw [show F + 4 * (m + 1) + 2 = F + 4 * m + 2 + 2 + 1 + 1 by omega]
    have hs : ∃ G : Vw, vFn (vM MT0 D) nb_X9_payStaff (F + 4 * m + 2 + 2 + 1) 2 0 [vR 7, vR 25, vI i, x3, x4] [] g = vFn (vM MT0 D) nb_X9_payStaff (F + 4 * m + 2) 1 0 [vR 7, vR 25, vI (i + 1), vR (7 + 3 + f 26 i), vI (g_imul (g 25 3) (g (7 + 3 + f 26 i) 2))] [] G ∧ WkR 7 g G := by
      have hc := (show vFn (vM MT0 D) nb_X9_payStaff (F + 4 * m + 2 + 2 + 1) 2 0 [vR 7, vR 25, vI i, x3, x4] [] g = vc3 (bv (g 25 4)) (bv (g_imul (g 25 3) (g (7 + 3 + f 26 i) 2))) (vFn (vM MT0 D) nb_X9_payStaff (F + 4 * m + 2 + 2) 4 0 [vR 7, vR 25, vI i, vR (7 + 3 + f 26 i), vI (g_imul (g 25 3) (g (7 + 3 + f 26 i) 2))] [] g) (vFn (vM MT0 D) nb_X9_payStaff (F + 4 * m + 2 + 2) 3 0 [vR 7, vR 25, vI i, vR (7 + 3 + f 26 i), vI (g_imul (g 25 3) (g (7 + 3 + f 26 i) 2))] [] g) (vFn (vM MT0 D) nb_X9_payStaff (F + 4 * m + 2 + 2) 3 0 [vR 7, vR 25, vI i, vR (7 + 3 + f 26 i), vI (g_imul (g 25 3) (g (7 + 3 + f 26 i) 2))] [] g) from by
        rcases (show i = 0 ∨ i = 1 ∨ i = 2 by omega) with q | q | q
        · subst q; exact ps2_7_1_0 he9 e1
        · subst q; exact ps2_7_1_1 he9 e1
        · subst q; exact ps2_7_1_2 he9 e1)
      rcases vc3_or (u := bv (g 25 4)) (w := bv (g_imul (g 25 3) (g (7 + 3 + f 26 i) 2))) (a := vFn (vM MT0 D) nb_X9_payStaff (F + 4 * m + 2 + 2) 4 0 [vR 7, vR 25, vI i, vR (7 + 3 + f 26 i), vI (g_imul (g 25 3) (g (7 + 3 + f 26 i) 2))] [] g) (b := vFn (vM MT0 D) nb_X9_payStaff (F + 4 * m + 2 + 2) 3 0 [vR 7, vR 25, vI i, vR (7 + 3 + f 26 i), vI (g_imul (g 25 3) (g (7 + 3 + f 26 i) 2))] [] g) with q | q
      · exact ⟨_, hc.trans (q.trans (ps4_7_1 he9 hi3)), un_R (j := 1) (by omega) (by omega) (by omega)⟩
      · exact ⟨_, hc.trans (q.trans (ps3_7_1 he9 hi3)), ps_R (j := 1) (by omega) (by omega) (by omega) (by omega)⟩
    obtain ⟨G, s1, s2⟩ := hs
    obtain ⟨g', k1, k2⟩ := ih (i + 1) F (vR (7 + 3 + f 26 i)) (vI (g_imul (g 25 3) (g (7 + 3 + f 26 i) 2))) G (by omega) (wkR_tr hg s2)
    exact ⟨g', (ps1l_7_1 (by omega) (by omega)).trans (s1.trans k1), k2⟩
theorem ps_7_1 {D : Nat} {f : Vw} (hj : 1 < f 7 3) (h8 : f 7 3 ≤ 8) (h2 : f 7 2 ≤ 12) (h3 : f 25 6 ≤ 3) (hm : ∀ i, i < f 25 6 → f 26 i < f 7 2) : ∃ g, vM MT0 (D + 1) 90 [vR 7, vR 25] f = some ((1, 0), vW 3, g) ∧ WkR 7 f g := by
  obtain ⟨F, hF, go⟩ := vM_at (D := D) (y := 90) (as := [vR 7, vR 25]) (f := f) rfl rfl rfl rfl
  obtain ⟨g', k1, k2⟩ := psL_7_1 (D := D) hj h8 h2 h3 hm (f 25 6) 0 (F + 57 - 4 * f 25 6) (vW 3) (vW 3) f (by omega) wkR_rf
  rw [show F + 57 - 4 * f 25 6 + 4 * f 25 6 + 2 = F + 59 by omega] at k1
  have e0 : vFn (vM MT0 D) nb_X9_payStaff (F + 60) 0 0 (iniL 5 [vR 7, vR 25]) [] f = vFn (vM MT0 D) nb_X9_payStaff (F + 59) 1 0 [vR 7, vR 25, vI 0, vW 3, vW 3] [] f := by
    refine (vF_g rfl rfl).trans ?_
    exact rfl
  exact ⟨g', go _ (e0.trans k1), k2⟩
theorem hr2_7_2_0 {D F e r : Nat} {x4 : AV} {g : Vw} (he : e < 12) (h : g 29 0 = e) : vFn (vM MT0 D) nb_X9_hearReplies (F + 1) 2 0 [vR 7, vR 28, vI r, vI 0, x4] [] g = vFn (vM MT0 D) nb_X9_hearReplies F 1 0 [vR 7, vR 28, vI ((r + g (7 + 3 + e) 2) % 4294967296), vI (0 + 1), vI e] [] (vup g (7 + 17 + 3 * 2) e ((g (7 + 17 + 3 * 2) e + 1) % 4294967296)) := by
  refine (vF_g rfl rfl).trans ?_
  refine Eq.trans (b := vB (vM MT0 D) (vFn (vM MT0 D) nb_X9_hearReplies F) hr2T hr2R 0 [vR 7, vR 28, vI r, vI 0, x4] [vI (g 29 0)] g) rfl ?_
  rw [h]
  clear h
  rcases (show e = 0 ∨ e = 1 ∨ e = 2 ∨ e = 3 ∨ e = 4 ∨ e = 5 ∨ e = 6 ∨ e = 7 ∨ e = 8 ∨ e = 9 ∨ e = 10 ∨ e = 11 by omega) with rfl | rfl | rfl | rfl | rfl | rfl | rfl | rfl | rfl | rfl | rfl | rfl <;> exact rfl
theorem ps2_7_2_0 {D F e : Nat} {x3 x4 : AV} {g : Vw} (he : e < 12) (h : g 29 0 = e) : vFn (vM MT0 D) nb_X9_payStaff (F + 1) 2 0 [vR 7, vR 28, vI 0, x3, x4] [] g = vc3 (bv (g 28 4)) (bv (g_imul (g 28 3) (g (7 + 3 + e) 2))) (vFn (vM MT0 D) nb_X9_payStaff F 4 0 [vR 7, vR 28, vI 0, vR (7 + 3 + e), vI (g_imul (g 28 3) (g (7 + 3 + e) 2))] [] g) (vFn (vM MT0 D) nb_X9_payStaff F 3 0 [vR 7, vR 28, vI 0, vR (7 + 3 + e), vI (g_imul (g 28 3) (g (7 + 3 + e) 2))] [] g) (vFn (vM MT0 D) nb_X9_payStaff F 3 0 [vR 7, vR 28, vI 0, vR (7 + 3 + e), vI (g_imul (g 28 3) (g (7 + 3 + e) 2))] [] g) := by
  refine (vF_g rfl rfl).trans ?_
  refine Eq.trans (b := vB (vM MT0 D) (vFn (vM MT0 D) nb_X9_payStaff F) ps2T ps2R 0 [vR 7, vR 28, vI 0, x3, x4] [vI (g 29 0), vR 8] g) rfl ?_
  rw [h]
  clear h
  rcases (show e = 0 ∨ e = 1 ∨ e = 2 ∨ e = 3 ∨ e = 4 ∨ e = 5 ∨ e = 6 ∨ e = 7 ∨ e = 8 ∨ e = 9 ∨ e = 10 ∨ e = 11 by omega) with rfl | rfl | rfl | rfl | rfl | rfl | rfl | rfl | rfl | rfl | rfl | rfl <;> exact rfl
theorem hr2_7_2_1 {D F e r : Nat} {x4 : AV} {g : Vw} (he : e < 12) (h : g 29 1 = e) : vFn (vM MT0 D) nb_X9_hearReplies (F + 1) 2 0 [vR 7, vR 28, vI r, vI 1, x4] [] g = vFn (vM MT0 D) nb_X9_hearReplies F 1 0 [vR 7, vR 28, vI ((r + g (7 + 3 + e) 2) % 4294967296), vI (1 + 1), vI e] [] (vup g (7 + 17 + 3 * 2) e ((g (7 + 17 + 3 * 2) e + 1) % 4294967296)) := by
  refine (vF_g rfl rfl).trans ?_
  refine Eq.trans (b := vB (vM MT0 D) (vFn (vM MT0 D) nb_X9_hearReplies F) hr2T hr2R 0 [vR 7, vR 28, vI r, vI 1, x4] [vI (g 29 1)] g) rfl ?_
  rw [h]
  clear h
  rcases (show e = 0 ∨ e = 1 ∨ e = 2 ∨ e = 3 ∨ e = 4 ∨ e = 5 ∨ e = 6 ∨ e = 7 ∨ e = 8 ∨ e = 9 ∨ e = 10 ∨ e = 11 by omega) with rfl | rfl | rfl | rfl | rfl | rfl | rfl | rfl | rfl | rfl | rfl | rfl <;> exact rfl
theorem ps2_7_2_1 {D F e : Nat} {x3 x4 : AV} {g : Vw} (he : e < 12) (h : g 29 1 = e) : vFn (vM MT0 D) nb_X9_payStaff (F + 1) 2 0 [vR 7, vR 28, vI 1, x3, x4] [] g = vc3 (bv (g 28 4)) (bv (g_imul (g 28 3) (g (7 + 3 + e) 2))) (vFn (vM MT0 D) nb_X9_payStaff F 4 0 [vR 7, vR 28, vI 1, vR (7 + 3 + e), vI (g_imul (g 28 3) (g (7 + 3 + e) 2))] [] g) (vFn (vM MT0 D) nb_X9_payStaff F 3 0 [vR 7, vR 28, vI 1, vR (7 + 3 + e), vI (g_imul (g 28 3) (g (7 + 3 + e) 2))] [] g) (vFn (vM MT0 D) nb_X9_payStaff F 3 0 [vR 7, vR 28, vI 1, vR (7 + 3 + e), vI (g_imul (g 28 3) (g (7 + 3 + e) 2))] [] g) := by
  refine (vF_g rfl rfl).trans ?_
  refine Eq.trans (b := vB (vM MT0 D) (vFn (vM MT0 D) nb_X9_payStaff F) ps2T ps2R 0 [vR 7, vR 28, vI 1, x3, x4] [vI (g 29 1), vR 8] g) rfl ?_
  rw [h]
  clear h
  rcases (show e = 0 ∨ e = 1 ∨ e = 2 ∨ e = 3 ∨ e = 4 ∨ e = 5 ∨ e = 6 ∨ e = 7 ∨ e = 8 ∨ e = 9 ∨ e = 10 ∨ e = 11 by omega) with rfl | rfl | rfl | rfl | rfl | rfl | rfl | rfl | rfl | rfl | rfl | rfl <;> exact rfl
theorem hr2_7_2_2 {D F e r : Nat} {x4 : AV} {g : Vw} (he : e < 12) (h : g 29 2 = e) : vFn (vM MT0 D) nb_X9_hearReplies (F + 1) 2 0 [vR 7, vR 28, vI r, vI 2, x4] [] g = vFn (vM MT0 D) nb_X9_hearReplies F 1 0 [vR 7, vR 28, vI ((r + g (7 + 3 + e) 2) % 4294967296), vI (2 + 1), vI e] [] (vup g (7 + 17 + 3 * 2) e ((g (7 + 17 + 3 * 2) e + 1) % 4294967296)) := by
  refine (vF_g rfl rfl).trans ?_
  refine Eq.trans (b := vB (vM MT0 D) (vFn (vM MT0 D) nb_X9_hearReplies F) hr2T hr2R 0 [vR 7, vR 28, vI r, vI 2, x4] [vI (g 29 2)] g) rfl ?_
  rw [h]
  clear h
  rcases (show e = 0 ∨ e = 1 ∨ e = 2 ∨ e = 3 ∨ e = 4 ∨ e = 5 ∨ e = 6 ∨ e = 7 ∨ e = 8 ∨ e = 9 ∨ e = 10 ∨ e = 11 by omega) with rfl | rfl | rfl | rfl | rfl | rfl | rfl | rfl | rfl | rfl | rfl | rfl <;> exact rfl
theorem ps2_7_2_2 {D F e : Nat} {x3 x4 : AV} {g : Vw} (he : e < 12) (h : g 29 2 = e) : vFn (vM MT0 D) nb_X9_payStaff (F + 1) 2 0 [vR 7, vR 28, vI 2, x3, x4] [] g = vc3 (bv (g 28 4)) (bv (g_imul (g 28 3) (g (7 + 3 + e) 2))) (vFn (vM MT0 D) nb_X9_payStaff F 4 0 [vR 7, vR 28, vI 2, vR (7 + 3 + e), vI (g_imul (g 28 3) (g (7 + 3 + e) 2))] [] g) (vFn (vM MT0 D) nb_X9_payStaff F 3 0 [vR 7, vR 28, vI 2, vR (7 + 3 + e), vI (g_imul (g 28 3) (g (7 + 3 + e) 2))] [] g) (vFn (vM MT0 D) nb_X9_payStaff F 3 0 [vR 7, vR 28, vI 2, vR (7 + 3 + e), vI (g_imul (g 28 3) (g (7 + 3 + e) 2))] [] g) := by
  refine (vF_g rfl rfl).trans ?_
  refine Eq.trans (b := vB (vM MT0 D) (vFn (vM MT0 D) nb_X9_payStaff F) ps2T ps2R 0 [vR 7, vR 28, vI 2, x3, x4] [vI (g 29 2), vR 8] g) rfl ?_
  rw [h]
  clear h
  rcases (show e = 0 ∨ e = 1 ∨ e = 2 ∨ e = 3 ∨ e = 4 ∨ e = 5 ∨ e = 6 ∨ e = 7 ∨ e = 8 ∨ e = 9 ∨ e = 10 ∨ e = 11 by omega) with rfl | rfl | rfl | rfl | rfl | rfl | rfl | rfl | rfl | rfl | rfl | rfl <;> exact rfl
theorem hr1l_7_2 {D F i r : Nat} {x4 : AV} {g : Vw} (h : i < g 28 6) (h3 : g 28 6 ≤ 3) : vFn (vM MT0 D) nb_X9_hearReplies (F + 1) 1 0 [vR 7, vR 28, vI r, vI i, x4] [] g = vFn (vM MT0 D) nb_X9_hearReplies F 2 0 [vR 7, vR 28, vI r, vI i, x4] [] g := by
  refine (vF_g rfl rfl).trans ?_
  refine (vlt (x := i) (y := g 28 6) (by omega) h).trans ?_
  exact rfl
theorem hr1g_7_2 {D F i r : Nat} {x4 : AV} {g : Vw} (h : g 28 6 ≤ i) (h3 : i ≤ 3) : vFn (vM MT0 D) nb_X9_hearReplies (F + 1) 1 0 [vR 7, vR 28, vI r, vI i, x4] [] g = vFn (vM MT0 D) nb_X9_hearReplies F 3 0 [vR 7, vR 28, vI r, vI i, x4] [] g := by
  refine (vF_g rfl rfl).trans ?_
  refine (vge2 (x := i) (y := g 28 6) (by omega) h).trans ?_
  exact rfl
theorem hr3_7_2 {D F r : Nat} {x3 x4 : AV} {g : Vw} : vFn (vM MT0 D) nb_X9_hearReplies (F + 1) 3 0 [vR 7, vR 28, vI r, x3, x4] [] g = some ((1, 0), vW 3, hrE 7 28 r g) := by
  refine (vF_g rfl rfl).trans ?_
  exact rfl
theorem hrL_7_2 {D : Nat} {f : Vw} (h3 : f 28 6 ≤ 3) (hm : ∀ i, i < f 28 6 → f 29 i < 12) : ∀ (m i r F : Nat) (x4 : AV) (g : Vw), i + m = f 28 6 → (∀ a b, a ≠ 7 + 17 + 3 * 2 → g a b = f a b) → ∃ (r' i' : Nat) (y4 : AV) (g' : Vw), vFn (vM MT0 D) nb_X9_hearReplies (F + 2 * m + 1) 1 0 [vR 7, vR 28, vI r, vI i, x4] [] g = vFn (vM MT0 D) nb_X9_hearReplies F 3 0 [vR 7, vR 28, vI r', vI i', y4] [] g' ∧ ∀ a b, a ≠ 7 + 17 + 3 * 2 → g' a b = f a b := by
  intro m
  induction m with
  | zero =>
    intro i r F x4 g hi hg
    have e6 := hg 28 6 (by decide)
    rw [show F + 2 * 0 + 1 = F + 1 by omega]
    exact ⟨r, i, x4, g, hr1g_7_2 (by omega) (by omega), hg⟩
  | succ m ih =>
    intro i r F x4 g hi hg
    have e6 := hg 28 6 (by decide)
    have e1 := hg 29 i (by decide)
    have he := hm i (by omega)
    have hs : ∀ r9 : Nat, vFn (vM MT0 D) nb_X9_hearReplies (F + 2 * m + 1 + 1) 2 0 [vR 7, vR 28, vI r, vI i, x4] [] g = vFn (vM MT0 D) nb_X9_hearReplies (F + 2 * m + 1) 1 0 [vR 7, vR 28, vI ((r + g (7 + 3 + f 29 i) 2) % 4294967296), vI (i + 1), vI (f 29 i)] [] (vup g (7 + 17 + 3 * 2) (f 29 i) ((g (7 + 17 + 3 * 2) (f 29 i) + 1) % 4294967296)) := fun _ => by
      rcases (show i = 0 ∨ i = 1 ∨ i = 2 by omega) with q | q | q
      · subst q; exact hr2_7_2_0 he e1
      · subst q; exact hr2_7_2_1 he e1
      · subst q; exact hr2_7_2_2 he e1
    obtain ⟨r', i', y4, g', k1, k2⟩ := ih (i + 1) ((r + g (7 + 3 + f 29 i) 2) % 4294967296) F (vI (f 29 i)) (vup g (7 + 17 + 3 * 2) (f 29 i) ((g (7 + 17 + 3 * 2) (f 29 i) + 1) % 4294967296)) (by omega) (fun a b h => (vup_ne (Or.inl h)).trans (hg a b h))
    refine ⟨r', i', y4, g', ?_, k2⟩
    rw [show F + 2 * (m + 1) + 1 = F + 2 * m + 1 + 1 + 1 by omega]
    exact (hr1l_7_2 (by omega) (by omega)).trans ((hs 0).trans k1)
theorem hr_7_2 {D : Nat} {f : Vw} (hj : 2 < f 7 3) (h8 : f 7 3 ≤ 8) (h2 : f 7 2 ≤ 12) (h3 : f 28 6 ≤ 3) (hm : ∀ i, i < f 28 6 → f 29 i < 12) : ∃ g, vM MT0 (D + 1) 89 [vR 7, vR 28] f = some ((1, 0), vW 3, g) ∧ WkR 7 f g := by
  obtain ⟨F, hF, go⟩ := vM_at (D := D) (y := 89) (as := [vR 7, vR 28]) (f := f) rfl rfl rfl rfl
  obtain ⟨r', i', y4, g', k1, k2⟩ := hrL_7_2 (D := D) h3 hm (f 28 6) 0 0 (F + 57 - 2 * f 28 6 + 1) (vW 3) f (by omega) (fun _ _ _ => rfl)
  rw [show F + 57 - 2 * f 28 6 + 1 + 2 * f 28 6 + 1 = F + 59 by omega] at k1
  have e0 : vFn (vM MT0 D) nb_X9_hearReplies (F + 60) 0 0 (iniL 5 [vR 7, vR 28]) [] f = vFn (vM MT0 D) nb_X9_hearReplies (F + 59) 1 0 [vR 7, vR 28, vI 0, vI 0, vW 3] [] f := by
    refine (vF_g rfl rfl).trans ?_
    exact rfl
  exact ⟨_, go _ (e0.trans (k1.trans hr3_7_2)), hr_R hj h8 k2 h2⟩
theorem ps1l_7_2 {D F i : Nat} {x3 x4 : AV} {g : Vw} (h : i < g 28 6) (h3 : g 28 6 ≤ 3) : vFn (vM MT0 D) nb_X9_payStaff (F + 1) 1 0 [vR 7, vR 28, vI i, x3, x4] [] g = vFn (vM MT0 D) nb_X9_payStaff F 2 0 [vR 7, vR 28, vI i, x3, x4] [] g := by
  refine (vF_g rfl rfl).trans ?_
  refine (vlt (x := i) (y := g 28 6) (by omega) h).trans ?_
  exact rfl
theorem ps1g_7_2 {D F i : Nat} {x3 x4 : AV} {g : Vw} (h : g 28 6 ≤ i) (h3 : i ≤ 3) : vFn (vM MT0 D) nb_X9_payStaff (F + 2) 1 0 [vR 7, vR 28, vI i, x3, x4] [] g = some ((1, 0), vW 3, g) := by
  refine (vF_g rfl rfl).trans ?_
  refine (vge2 (x := i) (y := g 28 6) (by omega) h).trans ?_
  refine (vF_g rfl rfl).trans ?_
  exact rfl
theorem ps3_7_2 {D F i e p : Nat} {g : Vw} (he : e < 12) (hi : i < 3) : vFn (vM MT0 D) nb_X9_payStaff (F + 2) 3 0 [vR 7, vR 28, vI i, vR (7 + 3 + e), vI p] [] g = vFn (vM MT0 D) nb_X9_payStaff F 1 0 [vR 7, vR 28, vI (i + 1), vR (7 + 3 + e), vI p] [] (psE 28 (7 + 3 + e) p g) := by
  rcases (show i = 0 ∨ i = 1 ∨ i = 2 by omega) with q | q | q <;> subst q <;> rcases (show e = 0 ∨ e = 1 ∨ e = 2 ∨ e = 3 ∨ e = 4 ∨ e = 5 ∨ e = 6 ∨ e = 7 ∨ e = 8 ∨ e = 9 ∨ e = 10 ∨ e = 11 by omega) with rfl | rfl | rfl | rfl | rfl | rfl | rfl | rfl | rfl | rfl | rfl | rfl <;> (refine (vF_g rfl rfl).trans ?_; refine (vF_g rfl rfl).trans ?_; exact rfl)
theorem ps4_7_2 {D F i e p : Nat} {g : Vw} (he : e < 12) (hi : i < 3) : vFn (vM MT0 D) nb_X9_payStaff (F + 2) 4 0 [vR 7, vR 28, vI i, vR (7 + 3 + e), vI p] [] g = vFn (vM MT0 D) nb_X9_payStaff F 1 0 [vR 7, vR 28, vI (i + 1), vR (7 + 3 + e), vI p] [] (vup g (7 + 3 + e) 6 ((g (7 + 3 + e) 6 + 1) % 4294967296)) := by
  rcases (show i = 0 ∨ i = 1 ∨ i = 2 by omega) with q | q | q <;> subst q <;> rcases (show e = 0 ∨ e = 1 ∨ e = 2 ∨ e = 3 ∨ e = 4 ∨ e = 5 ∨ e = 6 ∨ e = 7 ∨ e = 8 ∨ e = 9 ∨ e = 10 ∨ e = 11 by omega) with rfl | rfl | rfl | rfl | rfl | rfl | rfl | rfl | rfl | rfl | rfl | rfl <;> (refine (vF_g rfl rfl).trans ?_; refine (vF_g rfl rfl).trans ?_; exact rfl)
theorem psL_7_2 {D : Nat} {f : Vw} (hj : 2 < f 7 3) (h8 : f 7 3 ≤ 8) (h2 : f 7 2 ≤ 12) (h3 : f 28 6 ≤ 3) (hm : ∀ i, i < f 28 6 → f 29 i < f 7 2) : ∀ (m i F : Nat) (x3 x4 : AV) (g : Vw), i + m = f 28 6 → WkR 7 f g → ∃ g' : Vw, vFn (vM MT0 D) nb_X9_payStaff (F + 4 * m + 2) 1 0 [vR 7, vR 28, vI i, x3, x4] [] g = some ((1, 0), vW 3, g') ∧ WkR 7 f g' := by
  intro m
  induction m with
  | zero =>
    intro i F x3 x4 g hi hg
    have e6 : g 28 6 = f 28 6 := hg.2 28 6 (Or.inr (Or.inr (Or.inr (Or.inr ⟨2, by decide, Or.inl ⟨by decide, by decide, by decide, by decide⟩⟩))))
    rw [show F + 4 * 0 + 2 = F + 2 by omega]
    exact ⟨g, ps1g_7_2 (by omega) (by omega), hg⟩
  | succ m ih =>
    intro i F x3 x4 g hi hg
    have e6 : g 28 6 = f 28 6 := hg.2 28 6 (Or.inr (Or.inr (Or.inr (Or.inr ⟨2, by decide, Or.inl ⟨by decide, by decide, by decide, by decide⟩⟩))))
    have e1 : g 29 i = f 29 i := hg.2 29 i (Or.inr (Or.inr (Or.inr (Or.inr ⟨2, by decide, Or.inr (by decide)⟩))))
    have e2 : g 7 2 = f 7 2 := hg.2 7 2 (Or.inr (Or.inr (Or.inl ⟨rfl, by decide⟩)))
    have e3 : g 7 3 = f 7 3 := hg.2 7 3 (Or.inr (Or.inr (Or.inl ⟨rfl, by decide⟩)))
    have he := hm i (by omega)
    have he9 : f 29 i < 12 := by omega
    have hi3 : i < 3 := by omega
    rw [show F + 4 * (m + 1) + 2 = F + 4 * m + 2 + 2 + 1 + 1 by omega]
    have hs : ∃ G : Vw, vFn (vM MT0 D) nb_X9_payStaff (F + 4 * m + 2 + 2 + 1) 2 0 [vR 7, vR 28, vI i, x3, x4] [] g = vFn (vM MT0 D) nb_X9_payStaff (F + 4 * m + 2) 1 0 [vR 7, vR 28, vI (i + 1), vR (7 + 3 + f 29 i), vI (g_imul (g 28 3) (g (7 + 3 + f 29 i) 2))] [] G ∧ WkR 7 g G := by
      have hc := (show vFn (vM MT0 D) nb_X9_payStaff (F + 4 * m + 2 + 2 + 1) 2 0 [vR 7, vR 28, vI i, x3, x4] [] g = vc3 (bv (g 28 4)) (bv (g_imul (g 28 3) (g (7 + 3 + f 29 i) 2))) (vFn (vM MT0 D) nb_X9_payStaff (F + 4 * m + 2 + 2) 4 0 [vR 7, vR 28, vI i, vR (7 + 3 + f 29 i), vI (g_imul (g 28 3) (g (7 + 3 + f 29 i) 2))] [] g) (vFn (vM MT0 D) nb_X9_payStaff (F + 4 * m + 2 + 2) 3 0 [vR 7, vR 28, vI i, vR (7 + 3 + f 29 i), vI (g_imul (g 28 3) (g (7 + 3 + f 29 i) 2))] [] g) (vFn (vM MT0 D) nb_X9_payStaff (F + 4 * m + 2 + 2) 3 0 [vR 7, vR 28, vI i, vR (7 + 3 + f 29 i), vI (g_imul (g 28 3) (g (7 + 3 + f 29 i) 2))] [] g) from by
        rcases (show i = 0 ∨ i = 1 ∨ i = 2 by omega) with q | q | q
        · subst q; exact ps2_7_2_0 he9 e1
        · subst q; exact ps2_7_2_1 he9 e1
        · subst q; exact ps2_7_2_2 he9 e1)
      rcases vc3_or (u := bv (g 28 4)) (w := bv (g_imul (g 28 3) (g (7 + 3 + f 29 i) 2))) (a := vFn (vM MT0 D) nb_X9_payStaff (F + 4 * m + 2 + 2) 4 0 [vR 7, vR 28, vI i, vR (7 + 3 + f 29 i), vI (g_imul (g 28 3) (g (7 + 3 + f 29 i) 2))] [] g) (b := vFn (vM MT0 D) nb_X9_payStaff (F + 4 * m + 2 + 2) 3 0 [vR 7, vR 28, vI i, vR (7 + 3 + f 29 i), vI (g_imul (g 28 3) (g (7 + 3 + f 29 i) 2))] [] g) with q | q
      · exact ⟨_, hc.trans (q.trans (ps4_7_2 he9 hi3)), un_R (j := 2) (by omega) (by omega) (by omega)⟩
      · exact ⟨_, hc.trans (q.trans (ps3_7_2 he9 hi3)), ps_R (j := 2) (by omega) (by omega) (by omega) (by omega)⟩
    obtain ⟨G, s1, s2⟩ := hs
    obtain ⟨g', k1, k2⟩ := ih (i + 1) F (vR (7 + 3 + f 29 i)) (vI (g_imul (g 28 3) (g (7 + 3 + f 29 i) 2))) G (by omega) (wkR_tr hg s2)
    exact ⟨g', (ps1l_7_2 (by omega) (by omega)).trans (s1.trans k1), k2⟩
theorem ps_7_2 {D : Nat} {f : Vw} (hj : 2 < f 7 3) (h8 : f 7 3 ≤ 8) (h2 : f 7 2 ≤ 12) (h3 : f 28 6 ≤ 3) (hm : ∀ i, i < f 28 6 → f 29 i < f 7 2) : ∃ g, vM MT0 (D + 1) 90 [vR 7, vR 28] f = some ((1, 0), vW 3, g) ∧ WkR 7 f g := by
  obtain ⟨F, hF, go⟩ := vM_at (D := D) (y := 90) (as := [vR 7, vR 28]) (f := f) rfl rfl rfl rfl
  obtain ⟨g', k1, k2⟩ := psL_7_2 (D := D) hj h8 h2 h3 hm (f 28 6) 0 (F + 57 - 4 * f 28 6) (vW 3) (vW 3) f (by omega) wkR_rf
  rw [show F + 57 - 4 * f 28 6 + 4 * f 28 6 + 2 = F + 59 by omega] at k1
  have e0 : vFn (vM MT0 D) nb_X9_payStaff (F + 60) 0 0 (iniL 5 [vR 7, vR 28]) [] f = vFn (vM MT0 D) nb_X9_payStaff (F + 59) 1 0 [vR 7, vR 28, vI 0, vW 3, vW 3] [] f := by
    refine (vF_g rfl rfl).trans ?_
    exact rfl
  exact ⟨g', go _ (e0.trans k1), k2⟩
theorem hr2_7_3_0 {D F e r : Nat} {x4 : AV} {g : Vw} (he : e < 12) (h : g 32 0 = e) : vFn (vM MT0 D) nb_X9_hearReplies (F + 1) 2 0 [vR 7, vR 31, vI r, vI 0, x4] [] g = vFn (vM MT0 D) nb_X9_hearReplies F 1 0 [vR 7, vR 31, vI ((r + g (7 + 3 + e) 2) % 4294967296), vI (0 + 1), vI e] [] (vup g (7 + 17 + 3 * 3) e ((g (7 + 17 + 3 * 3) e + 1) % 4294967296)) := by
  refine (vF_g rfl rfl).trans ?_
  refine Eq.trans (b := vB (vM MT0 D) (vFn (vM MT0 D) nb_X9_hearReplies F) hr2T hr2R 0 [vR 7, vR 31, vI r, vI 0, x4] [vI (g 32 0)] g) rfl ?_
  rw [h]
  clear h
  rcases (show e = 0 ∨ e = 1 ∨ e = 2 ∨ e = 3 ∨ e = 4 ∨ e = 5 ∨ e = 6 ∨ e = 7 ∨ e = 8 ∨ e = 9 ∨ e = 10 ∨ e = 11 by omega) with rfl | rfl | rfl | rfl | rfl | rfl | rfl | rfl | rfl | rfl | rfl | rfl <;> exact rfl
theorem ps2_7_3_0 {D F e : Nat} {x3 x4 : AV} {g : Vw} (he : e < 12) (h : g 32 0 = e) : vFn (vM MT0 D) nb_X9_payStaff (F + 1) 2 0 [vR 7, vR 31, vI 0, x3, x4] [] g = vc3 (bv (g 31 4)) (bv (g_imul (g 31 3) (g (7 + 3 + e) 2))) (vFn (vM MT0 D) nb_X9_payStaff F 4 0 [vR 7, vR 31, vI 0, vR (7 + 3 + e), vI (g_imul (g 31 3) (g (7 + 3 + e) 2))] [] g) (vFn (vM MT0 D) nb_X9_payStaff F 3 0 [vR 7, vR 31, vI 0, vR (7 + 3 + e), vI (g_imul (g 31 3) (g (7 + 3 + e) 2))] [] g) (vFn (vM MT0 D) nb_X9_payStaff F 3 0 [vR 7, vR 31, vI 0, vR (7 + 3 + e), vI (g_imul (g 31 3) (g (7 + 3 + e) 2))] [] g) := by
  refine (vF_g rfl rfl).trans ?_
  refine Eq.trans (b := vB (vM MT0 D) (vFn (vM MT0 D) nb_X9_payStaff F) ps2T ps2R 0 [vR 7, vR 31, vI 0, x3, x4] [vI (g 32 0), vR 8] g) rfl ?_
  rw [h]
  clear h
  rcases (show e = 0 ∨ e = 1 ∨ e = 2 ∨ e = 3 ∨ e = 4 ∨ e = 5 ∨ e = 6 ∨ e = 7 ∨ e = 8 ∨ e = 9 ∨ e = 10 ∨ e = 11 by omega) with rfl | rfl | rfl | rfl | rfl | rfl | rfl | rfl | rfl | rfl | rfl | rfl <;> exact rfl
theorem hr2_7_3_1 {D F e r : Nat} {x4 : AV} {g : Vw} (he : e < 12) (h : g 32 1 = e) : vFn (vM MT0 D) nb_X9_hearReplies (F + 1) 2 0 [vR 7, vR 31, vI r, vI 1, x4] [] g = vFn (vM MT0 D) nb_X9_hearReplies F 1 0 [vR 7, vR 31, vI ((r + g (7 + 3 + e) 2) % 4294967296), vI (1 + 1), vI e] [] (vup g (7 + 17 + 3 * 3) e ((g (7 + 17 + 3 * 3) e + 1) % 4294967296)) := by
  refine (vF_g rfl rfl).trans ?_
  refine Eq.trans (b := vB (vM MT0 D) (vFn (vM MT0 D) nb_X9_hearReplies F) hr2T hr2R 0 [vR 7, vR 31, vI r, vI 1, x4] [vI (g 32 1)] g) rfl ?_
  rw [h]
  clear h
  rcases (show e = 0 ∨ e = 1 ∨ e = 2 ∨ e = 3 ∨ e = 4 ∨ e = 5 ∨ e = 6 ∨ e = 7 ∨ e = 8 ∨ e = 9 ∨ e = 10 ∨ e = 11 by omega) with rfl | rfl | rfl | rfl | rfl | rfl | rfl | rfl | rfl | rfl | rfl | rfl <;> exact rfl
theorem ps2_7_3_1 {D F e : Nat} {x3 x4 : AV} {g : Vw} (he : e < 12) (h : g 32 1 = e) : vFn (vM MT0 D) nb_X9_payStaff (F + 1) 2 0 [vR 7, vR 31, vI 1, x3, x4] [] g = vc3 (bv (g 31 4)) (bv (g_imul (g 31 3) (g (7 + 3 + e) 2))) (vFn (vM MT0 D) nb_X9_payStaff F 4 0 [vR 7, vR 31, vI 1, vR (7 + 3 + e), vI (g_imul (g 31 3) (g (7 + 3 + e) 2))] [] g) (vFn (vM MT0 D) nb_X9_payStaff F 3 0 [vR 7, vR 31, vI 1, vR (7 + 3 + e), vI (g_imul (g 31 3) (g (7 + 3 + e) 2))] [] g) (vFn (vM MT0 D) nb_X9_payStaff F 3 0 [vR 7, vR 31, vI 1, vR (7 + 3 + e), vI (g_imul (g 31 3) (g (7 + 3 + e) 2))] [] g) := by
  refine (vF_g rfl rfl).trans ?_
  refine Eq.trans (b := vB (vM MT0 D) (vFn (vM MT0 D) nb_X9_payStaff F) ps2T ps2R 0 [vR 7, vR 31, vI 1, x3, x4] [vI (g 32 1), vR 8] g) rfl ?_
  rw [h]
  clear h
  rcases (show e = 0 ∨ e = 1 ∨ e = 2 ∨ e = 3 ∨ e = 4 ∨ e = 5 ∨ e = 6 ∨ e = 7 ∨ e = 8 ∨ e = 9 ∨ e = 10 ∨ e = 11 by omega) with rfl | rfl | rfl | rfl | rfl | rfl | rfl | rfl | rfl | rfl | rfl | rfl <;> exact rfl
theorem hr2_7_3_2 {D F e r : Nat} {x4 : AV} {g : Vw} (he : e < 12) (h : g 32 2 = e) : vFn (vM MT0 D) nb_X9_hearReplies (F + 1) 2 0 [vR 7, vR 31, vI r, vI 2, x4] [] g = vFn (vM MT0 D) nb_X9_hearReplies F 1 0 [vR 7, vR 31, vI ((r + g (7 + 3 + e) 2) % 4294967296), vI (2 + 1), vI e] [] (vup g (7 + 17 + 3 * 3) e ((g (7 + 17 + 3 * 3) e + 1) % 4294967296)) := by
  refine (vF_g rfl rfl).trans ?_
  refine Eq.trans (b := vB (vM MT0 D) (vFn (vM MT0 D) nb_X9_hearReplies F) hr2T hr2R 0 [vR 7, vR 31, vI r, vI 2, x4] [vI (g 32 2)] g) rfl ?_
  rw [h]
  clear h
  rcases (show e = 0 ∨ e = 1 ∨ e = 2 ∨ e = 3 ∨ e = 4 ∨ e = 5 ∨ e = 6 ∨ e = 7 ∨ e = 8 ∨ e = 9 ∨ e = 10 ∨ e = 11 by omega) with rfl | rfl | rfl | rfl | rfl | rfl | rfl | rfl | rfl | rfl | rfl | rfl <;> exact rfl
theorem ps2_7_3_2 {D F e : Nat} {x3 x4 : AV} {g : Vw} (he : e < 12) (h : g 32 2 = e) : vFn (vM MT0 D) nb_X9_payStaff (F + 1) 2 0 [vR 7, vR 31, vI 2, x3, x4] [] g = vc3 (bv (g 31 4)) (bv (g_imul (g 31 3) (g (7 + 3 + e) 2))) (vFn (vM MT0 D) nb_X9_payStaff F 4 0 [vR 7, vR 31, vI 2, vR (7 + 3 + e), vI (g_imul (g 31 3) (g (7 + 3 + e) 2))] [] g) (vFn (vM MT0 D) nb_X9_payStaff F 3 0 [vR 7, vR 31, vI 2, vR (7 + 3 + e), vI (g_imul (g 31 3) (g (7 + 3 + e) 2))] [] g) (vFn (vM MT0 D) nb_X9_payStaff F 3 0 [vR 7, vR 31, vI 2, vR (7 + 3 + e), vI (g_imul (g 31 3) (g (7 + 3 + e) 2))] [] g) := by
  refine (vF_g rfl rfl).trans ?_
  refine Eq.trans (b := vB (vM MT0 D) (vFn (vM MT0 D) nb_X9_payStaff F) ps2T ps2R 0 [vR 7, vR 31, vI 2, x3, x4] [vI (g 32 2), vR 8] g) rfl ?_
  rw [h]
  clear h
  rcases (show e = 0 ∨ e = 1 ∨ e = 2 ∨ e = 3 ∨ e = 4 ∨ e = 5 ∨ e = 6 ∨ e = 7 ∨ e = 8 ∨ e = 9 ∨ e = 10 ∨ e = 11 by omega) with rfl | rfl | rfl | rfl | rfl | rfl | rfl | rfl | rfl | rfl | rfl | rfl <;> exact rfl
theorem hr1l_7_3 {D F i r : Nat} {x4 : AV} {g : Vw} (h : i < g 31 6) (h3 : g 31 6 ≤ 3) : vFn (vM MT0 D) nb_X9_hearReplies (F + 1) 1 0 [vR 7, vR 31, vI r, vI i, x4] [] g = vFn (vM MT0 D) nb_X9_hearReplies F 2 0 [vR 7, vR 31, vI r, vI i, x4] [] g := by
  refine (vF_g rfl rfl).trans ?_
  refine (vlt (x := i) (y := g 31 6) (by omega) h).trans ?_
  exact rfl
theorem hr1g_7_3 {D F i r : Nat} {x4 : AV} {g : Vw} (h : g 31 6 ≤ i) (h3 : i ≤ 3) : vFn (vM MT0 D) nb_X9_hearReplies (F + 1) 1 0 [vR 7, vR 31, vI r, vI i, x4] [] g = vFn (vM MT0 D) nb_X9_hearReplies F 3 0 [vR 7, vR 31, vI r, vI i, x4] [] g := by
  refine (vF_g rfl rfl).trans ?_
  refine (vge2 (x := i) (y := g 31 6) (by omega) h).trans ?_
  exact rfl
theorem hr3_7_3 {D F r : Nat} {x3 x4 : AV} {g : Vw} : vFn (vM MT0 D) nb_X9_hearReplies (F + 1) 3 0 [vR 7, vR 31, vI r, x3, x4] [] g = some ((1, 0), vW 3, hrE 7 31 r g) := by
  refine (vF_g rfl rfl).trans ?_
  exact rfl
theorem hrL_7_3 {D : Nat} {f : Vw} (h3 : f 31 6 ≤ 3) (hm : ∀ i, i < f 31 6 → f 32 i < 12) : ∀ (m i r F : Nat) (x4 : AV) (g : Vw), i + m = f 31 6 → (∀ a b, a ≠ 7 + 17 + 3 * 3 → g a b = f a b) → ∃ (r' i' : Nat) (y4 : AV) (g' : Vw), vFn (vM MT0 D) nb_X9_hearReplies (F + 2 * m + 1) 1 0 [vR 7, vR 31, vI r, vI i, x4] [] g = vFn (vM MT0 D) nb_X9_hearReplies F 3 0 [vR 7, vR 31, vI r', vI i', y4] [] g' ∧ ∀ a b, a ≠ 7 + 17 + 3 * 3 → g' a b = f a b := by
  intro m
  induction m with
  | zero =>
    intro i r F x4 g hi hg
    have e6 := hg 31 6 (by decide)
    rw [show F + 2 * 0 + 1 = F + 1 by omega]
    exact ⟨r, i, x4, g, hr1g_7_3 (by omega) (by omega), hg⟩
  | succ m ih =>
    intro i r F x4 g hi hg
    have e6 := hg 31 6 (by decide)
    have e1 := hg 32 i (by decide)
    have he := hm i (by omega)
    have hs : ∀ r9 : Nat, vFn (vM MT0 D) nb_X9_hearReplies (F + 2 * m + 1 + 1) 2 0 [vR 7, vR 31, vI r, vI i, x4] [] g = vFn (vM MT0 D) nb_X9_hearReplies (F + 2 * m + 1) 1 0 [vR 7, vR 31, vI ((r + g (7 + 3 + f 32 i) 2) % 4294967296), vI (i + 1), vI (f 32 i)] [] (vup g (7 + 17 + 3 * 3) (f 32 i) ((g (7 + 17 + 3 * 3) (f 32 i) + 1) % 4294967296)) := fun _ => by
      rcases (show i = 0 ∨ i = 1 ∨ i = 2 by omega) with q | q | q
      · subst q; exact hr2_7_3_0 he e1
      · subst q; exact hr2_7_3_1 he e1
      · subst q; exact hr2_7_3_2 he e1
    obtain ⟨r', i', y4, g', k1, k2⟩ := ih (i + 1) ((r + g (7 + 3 + f 32 i) 2) % 4294967296) F (vI (f 32 i)) (vup g (7 + 17 + 3 * 3) (f 32 i) ((g (7 + 17 + 3 * 3) (f 32 i) + 1) % 4294967296)) (by omega) (fun a b h => (vup_ne (Or.inl h)).trans (hg a b h))
    refine ⟨r', i', y4, g', ?_, k2⟩
    rw [show F + 2 * (m + 1) + 1 = F + 2 * m + 1 + 1 + 1 by omega]
    exact (hr1l_7_3 (by omega) (by omega)).trans ((hs 0).trans k1)
theorem hr_7_3 {D : Nat} {f : Vw} (hj : 3 < f 7 3) (h8 : f 7 3 ≤ 8) (h2 : f 7 2 ≤ 12) (h3 : f 31 6 ≤ 3) (hm : ∀ i, i < f 31 6 → f 32 i < 12) : ∃ g, vM MT0 (D + 1) 89 [vR 7, vR 31] f = some ((1, 0), vW 3, g) ∧ WkR 7 f g := by
  obtain ⟨F, hF, go⟩ := vM_at (D := D) (y := 89) (as := [vR 7, vR 31]) (f := f) rfl rfl rfl rfl
  obtain ⟨r', i', y4, g', k1, k2⟩ := hrL_7_3 (D := D) h3 hm (f 31 6) 0 0 (F + 57 - 2 * f 31 6 + 1) (vW 3) f (by omega) (fun _ _ _ => rfl)
  rw [show F + 57 - 2 * f 31 6 + 1 + 2 * f 31 6 + 1 = F + 59 by omega] at k1
  have e0 : vFn (vM MT0 D) nb_X9_hearReplies (F + 60) 0 0 (iniL 5 [vR 7, vR 31]) [] f = vFn (vM MT0 D) nb_X9_hearReplies (F + 59) 1 0 [vR 7, vR 31, vI 0, vI 0, vW 3] [] f := by
    refine (vF_g rfl rfl).trans ?_
    exact rfl
  exact ⟨_, go _ (e0.trans (k1.trans hr3_7_3)), hr_R hj h8 k2 h2⟩
theorem ps1l_7_3 {D F i : Nat} {x3 x4 : AV} {g : Vw} (h : i < g 31 6) (h3 : g 31 6 ≤ 3) : vFn (vM MT0 D) nb_X9_payStaff (F + 1) 1 0 [vR 7, vR 31, vI i, x3, x4] [] g = vFn (vM MT0 D) nb_X9_payStaff F 2 0 [vR 7, vR 31, vI i, x3, x4] [] g := by
  refine (vF_g rfl rfl).trans ?_
  refine (vlt (x := i) (y := g 31 6) (by omega) h).trans ?_
  exact rfl
theorem ps1g_7_3 {D F i : Nat} {x3 x4 : AV} {g : Vw} (h : g 31 6 ≤ i) (h3 : i ≤ 3) : vFn (vM MT0 D) nb_X9_payStaff (F + 2) 1 0 [vR 7, vR 31, vI i, x3, x4] [] g = some ((1, 0), vW 3, g) := by
  refine (vF_g rfl rfl).trans ?_
  refine (vge2 (x := i) (y := g 31 6) (by omega) h).trans ?_
  refine (vF_g rfl rfl).trans ?_
  exact rfl
theorem ps3_7_3 {D F i e p : Nat} {g : Vw} (he : e < 12) (hi : i < 3) : vFn (vM MT0 D) nb_X9_payStaff (F + 2) 3 0 [vR 7, vR 31, vI i, vR (7 + 3 + e), vI p] [] g = vFn (vM MT0 D) nb_X9_payStaff F 1 0 [vR 7, vR 31, vI (i + 1), vR (7 + 3 + e), vI p] [] (psE 31 (7 + 3 + e) p g) := by
  rcases (show i = 0 ∨ i = 1 ∨ i = 2 by omega) with q | q | q <;> subst q <;> rcases (show e = 0 ∨ e = 1 ∨ e = 2 ∨ e = 3 ∨ e = 4 ∨ e = 5 ∨ e = 6 ∨ e = 7 ∨ e = 8 ∨ e = 9 ∨ e = 10 ∨ e = 11 by omega) with rfl | rfl | rfl | rfl | rfl | rfl | rfl | rfl | rfl | rfl | rfl | rfl <;> (refine (vF_g rfl rfl).trans ?_; refine (vF_g rfl rfl).trans ?_; exact rfl)
theorem ps4_7_3 {D F i e p : Nat} {g : Vw} (he : e < 12) (hi : i < 3) : vFn (vM MT0 D) nb_X9_payStaff (F + 2) 4 0 [vR 7, vR 31, vI i, vR (7 + 3 + e), vI p] [] g = vFn (vM MT0 D) nb_X9_payStaff F 1 0 [vR 7, vR 31, vI (i + 1), vR (7 + 3 + e), vI p] [] (vup g (7 + 3 + e) 6 ((g (7 + 3 + e) 6 + 1) % 4294967296)) := by
  rcases (show i = 0 ∨ i = 1 ∨ i = 2 by omega) with q | q | q <;> subst q <;> rcases (show e = 0 ∨ e = 1 ∨ e = 2 ∨ e = 3 ∨ e = 4 ∨ e = 5 ∨ e = 6 ∨ e = 7 ∨ e = 8 ∨ e = 9 ∨ e = 10 ∨ e = 11 by omega) with rfl | rfl | rfl | rfl | rfl | rfl | rfl | rfl | rfl | rfl | rfl | rfl <;> (refine (vF_g rfl rfl).trans ?_; refine (vF_g rfl rfl).trans ?_; exact rfl)
theorem psL_7_3 {D : Nat} {f : Vw} (hj : 3 < f 7 3) (h8 : f 7 3 ≤ 8) (h2 : f 7 2 ≤ 12) (h3 : f 31 6 ≤ 3) (hm : ∀ i, i < f 31 6 → f 32 i < f 7 2) : ∀ (m i F : Nat) (x3 x4 : AV) (g : Vw), i + m = f 31 6 → WkR 7 f g → ∃ g' : Vw, vFn (vM MT0 D) nb_X9_payStaff (F + 4 * m + 2) 1 0 [vR 7, vR 31, vI i, x3, x4] [] g = some ((1, 0), vW 3, g') ∧ WkR 7 f g' := by
  intro m
  induction m with
  | zero =>
    intro i F x3 x4 g hi hg
    have e6 : g 31 6 = f 31 6 := hg.2 31 6 (Or.inr (Or.inr (Or.inr (Or.inr ⟨3, by decide, Or.inl ⟨by decide, by decide, by decide, by decide⟩⟩))))
    rw [show F + 4 * 0 + 2 = F + 2 by omega]
    exact ⟨g, ps1g_7_3 (by omega) (by omega), hg⟩
  | succ m ih =>
    intro i F x3 x4 g hi hg
    have e6 : g 31 6 = f 31 6 := hg.2 31 6 (Or.inr (Or.inr (Or.inr (Or.inr ⟨3, by decide, Or.inl ⟨by decide, by decide, by decide, by decide⟩⟩))))
    have e1 : g 32 i = f 32 i := hg.2 32 i (Or.inr (Or.inr (Or.inr (Or.inr ⟨3, by decide, Or.inr (by decide)⟩))))
    have e2 : g 7 2 = f 7 2 := hg.2 7 2 (Or.inr (Or.inr (Or.inl ⟨rfl, by decide⟩)))
    have e3 : g 7 3 = f 7 3 := hg.2 7 3 (Or.inr (Or.inr (Or.inl ⟨rfl, by decide⟩)))
    have he := hm i (by omega)
    have he9 : f 32 i < 12 := by omega
    have hi3 : i < 3 := by omega
    rw [show F + 4 * (m + 1) + 2 = F + 4 * m + 2 + 2 + 1 + 1 by omega]
    have hs : ∃ G : Vw, vFn (vM MT0 D) nb_X9_payStaff (F + 4 * m + 2 + 2 + 1) 2 0 [vR 7, vR 31, vI i, x3, x4] [] g = vFn (vM MT0 D) nb_X9_payStaff (F + 4 * m + 2) 1 0 [vR 7, vR 31, vI (i + 1), vR (7 + 3 + f 32 i), vI (g_imul (g 31 3) (g (7 + 3 + f 32 i) 2))] [] G ∧ WkR 7 g G := by
      have hc := (show vFn (vM MT0 D) nb_X9_payStaff (F + 4 * m + 2 + 2 + 1) 2 0 [vR 7, vR 31, vI i, x3, x4] [] g = vc3 (bv (g 31 4)) (bv (g_imul (g 31 3) (g (7 + 3 + f 32 i) 2))) (vFn (vM MT0 D) nb_X9_payStaff (F + 4 * m + 2 + 2) 4 0 [vR 7, vR 31, vI i, vR (7 + 3 + f 32 i), vI (g_imul (g 31 3) (g (7 + 3 + f 32 i) 2))] [] g) (vFn (vM MT0 D) nb_X9_payStaff (F + 4 * m + 2 + 2) 3 0 [vR 7, vR 31, vI i, vR (7 + 3 + f 32 i), vI (g_imul (g 31 3) (g (7 + 3 + f 32 i) 2))] [] g) (vFn (vM MT0 D) nb_X9_payStaff (F + 4 * m + 2 + 2) 3 0 [vR 7, vR 31, vI i, vR (7 + 3 + f 32 i), vI (g_imul (g 31 3) (g (7 + 3 + f 32 i) 2))] [] g) from by
        rcases (show i = 0 ∨ i = 1 ∨ i = 2 by omega) with q | q | q
        · subst q; exact ps2_7_3_0 he9 e1
        · subst q; exact ps2_7_3_1 he9 e1
        · subst q; exact ps2_7_3_2 he9 e1)
      rcases vc3_or (u := bv (g 31 4)) (w := bv (g_imul (g 31 3) (g (7 + 3 + f 32 i) 2))) (a := vFn (vM MT0 D) nb_X9_payStaff (F + 4 * m + 2 + 2) 4 0 [vR 7, vR 31, vI i, vR (7 + 3 + f 32 i), vI (g_imul (g 31 3) (g (7 + 3 + f 32 i) 2))] [] g) (b := vFn (vM MT0 D) nb_X9_payStaff (F + 4 * m + 2 + 2) 3 0 [vR 7, vR 31, vI i, vR (7 + 3 + f 32 i), vI (g_imul (g 31 3) (g (7 + 3 + f 32 i) 2))] [] g) with q | q
      · exact ⟨_, hc.trans (q.trans (ps4_7_3 he9 hi3)), un_R (j := 3) (by omega) (by omega) (by omega)⟩
      · exact ⟨_, hc.trans (q.trans (ps3_7_3 he9 hi3)), ps_R (j := 3) (by omega) (by omega) (by omega) (by omega)⟩
    obtain ⟨G, s1, s2⟩ := hs
    obtain ⟨g', k1, k2⟩ := ih (i + 1) F (vR (7 + 3 + f 32 i)) (vI (g_imul (g 31 3) (g (7 + 3 + f 32 i) 2))) G (by omega) (wkR_tr hg s2)
    exact ⟨g', (ps1l_7_3 (by omega) (by omega)).trans (s1.trans k1), k2⟩
theorem ps_7_3 {D : Nat} {f : Vw} (hj : 3 < f 7 3) (h8 : f 7 3 ≤ 8) (h2 : f 7 2 ≤ 12) (h3 : f 31 6 ≤ 3) (hm : ∀ i, i < f 31 6 → f 32 i < f 7 2) : ∃ g, vM MT0 (D + 1) 90 [vR 7, vR 31] f = some ((1, 0), vW 3, g) ∧ WkR 7 f g := by
  obtain ⟨F, hF, go⟩ := vM_at (D := D) (y := 90) (as := [vR 7, vR 31]) (f := f) rfl rfl rfl rfl
  obtain ⟨g', k1, k2⟩ := psL_7_3 (D := D) hj h8 h2 h3 hm (f 31 6) 0 (F + 57 - 4 * f 31 6) (vW 3) (vW 3) f (by omega) wkR_rf
  rw [show F + 57 - 4 * f 31 6 + 4 * f 31 6 + 2 = F + 59 by omega] at k1
  have e0 : vFn (vM MT0 D) nb_X9_payStaff (F + 60) 0 0 (iniL 5 [vR 7, vR 31]) [] f = vFn (vM MT0 D) nb_X9_payStaff (F + 59) 1 0 [vR 7, vR 31, vI 0, vW 3, vW 3] [] f := by
    refine (vF_g rfl rfl).trans ?_
    exact rfl
  exact ⟨g', go _ (e0.trans k1), k2⟩
theorem hr2_7_4_0 {D F e r : Nat} {x4 : AV} {g : Vw} (he : e < 12) (h : g 35 0 = e) : vFn (vM MT0 D) nb_X9_hearReplies (F + 1) 2 0 [vR 7, vR 34, vI r, vI 0, x4] [] g = vFn (vM MT0 D) nb_X9_hearReplies F 1 0 [vR 7, vR 34, vI ((r + g (7 + 3 + e) 2) % 4294967296), vI (0 + 1), vI e] [] (vup g (7 + 17 + 3 * 4) e ((g (7 + 17 + 3 * 4) e + 1) % 4294967296)) := by
  refine (vF_g rfl rfl).trans ?_
  refine Eq.trans (b := vB (vM MT0 D) (vFn (vM MT0 D) nb_X9_hearReplies F) hr2T hr2R 0 [vR 7, vR 34, vI r, vI 0, x4] [vI (g 35 0)] g) rfl ?_
  rw [h]
  clear h
  rcases (show e = 0 ∨ e = 1 ∨ e = 2 ∨ e = 3 ∨ e = 4 ∨ e = 5 ∨ e = 6 ∨ e = 7 ∨ e = 8 ∨ e = 9 ∨ e = 10 ∨ e = 11 by omega) with rfl | rfl | rfl | rfl | rfl | rfl | rfl | rfl | rfl | rfl | rfl | rfl <;> exact rfl
theorem ps2_7_4_0 {D F e : Nat} {x3 x4 : AV} {g : Vw} (he : e < 12) (h : g 35 0 = e) : vFn (vM MT0 D) nb_X9_payStaff (F + 1) 2 0 [vR 7, vR 34, vI 0, x3, x4] [] g = vc3 (bv (g 34 4)) (bv (g_imul (g 34 3) (g (7 + 3 + e) 2))) (vFn (vM MT0 D) nb_X9_payStaff F 4 0 [vR 7, vR 34, vI 0, vR (7 + 3 + e), vI (g_imul (g 34 3) (g (7 + 3 + e) 2))] [] g) (vFn (vM MT0 D) nb_X9_payStaff F 3 0 [vR 7, vR 34, vI 0, vR (7 + 3 + e), vI (g_imul (g 34 3) (g (7 + 3 + e) 2))] [] g) (vFn (vM MT0 D) nb_X9_payStaff F 3 0 [vR 7, vR 34, vI 0, vR (7 + 3 + e), vI (g_imul (g 34 3) (g (7 + 3 + e) 2))] [] g) := by
  refine (vF_g rfl rfl).trans ?_
  refine Eq.trans (b := vB (vM MT0 D) (vFn (vM MT0 D) nb_X9_payStaff F) ps2T ps2R 0 [vR 7, vR 34, vI 0, x3, x4] [vI (g 35 0), vR 8] g) rfl ?_
  rw [h]
  clear h
  rcases (show e = 0 ∨ e = 1 ∨ e = 2 ∨ e = 3 ∨ e = 4 ∨ e = 5 ∨ e = 6 ∨ e = 7 ∨ e = 8 ∨ e = 9 ∨ e = 10 ∨ e = 11 by omega) with rfl | rfl | rfl | rfl | rfl | rfl | rfl | rfl | rfl | rfl | rfl | rfl <;> exact rfl
theorem hr2_7_4_1 {D F e r : Nat} {x4 : AV} {g : Vw} (he : e < 12) (h : g 35 1 = e) : vFn (vM MT0 D) nb_X9_hearReplies (F + 1) 2 0 [vR 7, vR 34, vI r, vI 1, x4] [] g = vFn (vM MT0 D) nb_X9_hearReplies F 1 0 [vR 7, vR 34, vI ((r + g (7 + 3 + e) 2) % 4294967296), vI (1 + 1), vI e] [] (vup g (7 + 17 + 3 * 4) e ((g (7 + 17 + 3 * 4) e + 1) % 4294967296)) := by
  refine (vF_g rfl rfl).trans ?_
  refine Eq.trans (b := vB (vM MT0 D) (vFn (vM MT0 D) nb_X9_hearReplies F) hr2T hr2R 0 [vR 7, vR 34, vI r, vI 1, x4] [vI (g 35 1)] g) rfl ?_
  rw [h]
  clear h
  rcases (show e = 0 ∨ e = 1 ∨ e = 2 ∨ e = 3 ∨ e = 4 ∨ e = 5 ∨ e = 6 ∨ e = 7 ∨ e = 8 ∨ e = 9 ∨ e = 10 ∨ e = 11 by omega) with rfl | rfl | rfl | rfl | rfl | rfl | rfl | rfl | rfl | rfl | rfl | rfl <;> exact rfl
theorem ps2_7_4_1 {D F e : Nat} {x3 x4 : AV} {g : Vw} (he : e < 12) (h : g 35 1 = e) : vFn (vM MT0 D) nb_X9_payStaff (F + 1) 2 0 [vR 7, vR 34, vI 1, x3, x4] [] g = vc3 (bv (g 34 4)) (bv (g_imul (g 34 3) (g (7 + 3 + e) 2))) (vFn (vM MT0 D) nb_X9_payStaff F 4 0 [vR 7, vR 34, vI 1, vR (7 + 3 + e), vI (g_imul (g 34 3) (g (7 + 3 + e) 2))] [] g) (vFn (vM MT0 D) nb_X9_payStaff F 3 0 [vR 7, vR 34, vI 1, vR (7 + 3 + e), vI (g_imul (g 34 3) (g (7 + 3 + e) 2))] [] g) (vFn (vM MT0 D) nb_X9_payStaff F 3 0 [vR 7, vR 34, vI 1, vR (7 + 3 + e), vI (g_imul (g 34 3) (g (7 + 3 + e) 2))] [] g) := by
  refine (vF_g rfl rfl).trans ?_
  refine Eq.trans (b := vB (vM MT0 D) (vFn (vM MT0 D) nb_X9_payStaff F) ps2T ps2R 0 [vR 7, vR 34, vI 1, x3, x4] [vI (g 35 1), vR 8] g) rfl ?_
  rw [h]
  clear h
  rcases (show e = 0 ∨ e = 1 ∨ e = 2 ∨ e = 3 ∨ e = 4 ∨ e = 5 ∨ e = 6 ∨ e = 7 ∨ e = 8 ∨ e = 9 ∨ e = 10 ∨ e = 11 by omega) with rfl | rfl | rfl | rfl | rfl | rfl | rfl | rfl | rfl | rfl | rfl | rfl <;> exact rfl
theorem hr2_7_4_2 {D F e r : Nat} {x4 : AV} {g : Vw} (he : e < 12) (h : g 35 2 = e) : vFn (vM MT0 D) nb_X9_hearReplies (F + 1) 2 0 [vR 7, vR 34, vI r, vI 2, x4] [] g = vFn (vM MT0 D) nb_X9_hearReplies F 1 0 [vR 7, vR 34, vI ((r + g (7 + 3 + e) 2) % 4294967296), vI (2 + 1), vI e] [] (vup g (7 + 17 + 3 * 4) e ((g (7 + 17 + 3 * 4) e + 1) % 4294967296)) := by
  refine (vF_g rfl rfl).trans ?_
  refine Eq.trans (b := vB (vM MT0 D) (vFn (vM MT0 D) nb_X9_hearReplies F) hr2T hr2R 0 [vR 7, vR 34, vI r, vI 2, x4] [vI (g 35 2)] g) rfl ?_
  rw [h]
  clear h
  rcases (show e = 0 ∨ e = 1 ∨ e = 2 ∨ e = 3 ∨ e = 4 ∨ e = 5 ∨ e = 6 ∨ e = 7 ∨ e = 8 ∨ e = 9 ∨ e = 10 ∨ e = 11 by omega) with rfl | rfl | rfl | rfl | rfl | rfl | rfl | rfl | rfl | rfl | rfl | rfl <;> exact rfl
theorem ps2_7_4_2 {D F e : Nat} {x3 x4 : AV} {g : Vw} (he : e < 12) (h : g 35 2 = e) : vFn (vM MT0 D) nb_X9_payStaff (F + 1) 2 0 [vR 7, vR 34, vI 2, x3, x4] [] g = vc3 (bv (g 34 4)) (bv (g_imul (g 34 3) (g (7 + 3 + e) 2))) (vFn (vM MT0 D) nb_X9_payStaff F 4 0 [vR 7, vR 34, vI 2, vR (7 + 3 + e), vI (g_imul (g 34 3) (g (7 + 3 + e) 2))] [] g) (vFn (vM MT0 D) nb_X9_payStaff F 3 0 [vR 7, vR 34, vI 2, vR (7 + 3 + e), vI (g_imul (g 34 3) (g (7 + 3 + e) 2))] [] g) (vFn (vM MT0 D) nb_X9_payStaff F 3 0 [vR 7, vR 34, vI 2, vR (7 + 3 + e), vI (g_imul (g 34 3) (g (7 + 3 + e) 2))] [] g) := by
  refine (vF_g rfl rfl).trans ?_
  refine Eq.trans (b := vB (vM MT0 D) (vFn (vM MT0 D) nb_X9_payStaff F) ps2T ps2R 0 [vR 7, vR 34, vI 2, x3, x4] [vI (g 35 2), vR 8] g) rfl ?_
  rw [h]
  clear h
  rcases (show e = 0 ∨ e = 1 ∨ e = 2 ∨ e = 3 ∨ e = 4 ∨ e = 5 ∨ e = 6 ∨ e = 7 ∨ e = 8 ∨ e = 9 ∨ e = 10 ∨ e = 11 by omega) with rfl | rfl | rfl | rfl | rfl | rfl | rfl | rfl | rfl | rfl | rfl | rfl <;> exact rfl
theorem hr1l_7_4 {D F i r : Nat} {x4 : AV} {g : Vw} (h : i < g 34 6) (h3 : g 34 6 ≤ 3) : vFn (vM MT0 D) nb_X9_hearReplies (F + 1) 1 0 [vR 7, vR 34, vI r, vI i, x4] [] g = vFn (vM MT0 D) nb_X9_hearReplies F 2 0 [vR 7, vR 34, vI r, vI i, x4] [] g := by
  refine (vF_g rfl rfl).trans ?_
  refine (vlt (x := i) (y := g 34 6) (by omega) h).trans ?_
  exact rfl
theorem hr1g_7_4 {D F i r : Nat} {x4 : AV} {g : Vw} (h : g 34 6 ≤ i) (h3 : i ≤ 3) : vFn (vM MT0 D) nb_X9_hearReplies (F + 1) 1 0 [vR 7, vR 34, vI r, vI i, x4] [] g = vFn (vM MT0 D) nb_X9_hearReplies F 3 0 [vR 7, vR 34, vI r, vI i, x4] [] g := by
  refine (vF_g rfl rfl).trans ?_
  refine (vge2 (x := i) (y := g 34 6) (by omega) h).trans ?_
  exact rfl
theorem hr3_7_4 {D F r : Nat} {x3 x4 : AV} {g : Vw} : vFn (vM MT0 D) nb_X9_hearReplies (F + 1) 3 0 [vR 7, vR 34, vI r, x3, x4] [] g = some ((1, 0), vW 3, hrE 7 34 r g) := by
  refine (vF_g rfl rfl).trans ?_
  exact rfl
theorem hrL_7_4 {D : Nat} {f : Vw} (h3 : f 34 6 ≤ 3) (hm : ∀ i, i < f 34 6 → f 35 i < 12) : ∀ (m i r F : Nat) (x4 : AV) (g : Vw), i + m = f 34 6 → (∀ a b, a ≠ 7 + 17 + 3 * 4 → g a b = f a b) → ∃ (r' i' : Nat) (y4 : AV) (g' : Vw), vFn (vM MT0 D) nb_X9_hearReplies (F + 2 * m + 1) 1 0 [vR 7, vR 34, vI r, vI i, x4] [] g = vFn (vM MT0 D) nb_X9_hearReplies F 3 0 [vR 7, vR 34, vI r', vI i', y4] [] g' ∧ ∀ a b, a ≠ 7 + 17 + 3 * 4 → g' a b = f a b := by
  intro m
  induction m with
  | zero =>
    intro i r F x4 g hi hg
    have e6 := hg 34 6 (by decide)
    rw [show F + 2 * 0 + 1 = F + 1 by omega]
    exact ⟨r, i, x4, g, hr1g_7_4 (by omega) (by omega), hg⟩
  | succ m ih =>
    intro i r F x4 g hi hg
    have e6 := hg 34 6 (by decide)
    have e1 := hg 35 i (by decide)
    have he := hm i (by omega)
    have hs : ∀ r9 : Nat, vFn (vM MT0 D) nb_X9_hearReplies (F + 2 * m + 1 + 1) 2 0 [vR 7, vR 34, vI r, vI i, x4] [] g = vFn (vM MT0 D) nb_X9_hearReplies (F + 2 * m + 1) 1 0 [vR 7, vR 34, vI ((r + g (7 + 3 + f 35 i) 2) % 4294967296), vI (i + 1), vI (f 35 i)] [] (vup g (7 + 17 + 3 * 4) (f 35 i) ((g (7 + 17 + 3 * 4) (f 35 i) + 1) % 4294967296)) := fun _ => by
      rcases (show i = 0 ∨ i = 1 ∨ i = 2 by omega) with q | q | q
      · subst q; exact hr2_7_4_0 he e1
      · subst q; exact hr2_7_4_1 he e1
      · subst q; exact hr2_7_4_2 he e1
    obtain ⟨r', i', y4, g', k1, k2⟩ := ih (i + 1) ((r + g (7 + 3 + f 35 i) 2) % 4294967296) F (vI (f 35 i)) (vup g (7 + 17 + 3 * 4) (f 35 i) ((g (7 + 17 + 3 * 4) (f 35 i) + 1) % 4294967296)) (by omega) (fun a b h => (vup_ne (Or.inl h)).trans (hg a b h))
    refine ⟨r', i', y4, g', ?_, k2⟩
    rw [show F + 2 * (m + 1) + 1 = F + 2 * m + 1 + 1 + 1 by omega]
    exact (hr1l_7_4 (by omega) (by omega)).trans ((hs 0).trans k1)
theorem hr_7_4 {D : Nat} {f : Vw} (hj : 4 < f 7 3) (h8 : f 7 3 ≤ 8) (h2 : f 7 2 ≤ 12) (h3 : f 34 6 ≤ 3) (hm : ∀ i, i < f 34 6 → f 35 i < 12) : ∃ g, vM MT0 (D + 1) 89 [vR 7, vR 34] f = some ((1, 0), vW 3, g) ∧ WkR 7 f g := by
  obtain ⟨F, hF, go⟩ := vM_at (D := D) (y := 89) (as := [vR 7, vR 34]) (f := f) rfl rfl rfl rfl
  obtain ⟨r', i', y4, g', k1, k2⟩ := hrL_7_4 (D := D) h3 hm (f 34 6) 0 0 (F + 57 - 2 * f 34 6 + 1) (vW 3) f (by omega) (fun _ _ _ => rfl)
  rw [show F + 57 - 2 * f 34 6 + 1 + 2 * f 34 6 + 1 = F + 59 by omega] at k1
  have e0 : vFn (vM MT0 D) nb_X9_hearReplies (F + 60) 0 0 (iniL 5 [vR 7, vR 34]) [] f = vFn (vM MT0 D) nb_X9_hearReplies (F + 59) 1 0 [vR 7, vR 34, vI 0, vI 0, vW 3] [] f := by
    refine (vF_g rfl rfl).trans ?_
    exact rfl
  exact ⟨_, go _ (e0.trans (k1.trans hr3_7_4)), hr_R hj h8 k2 h2⟩
theorem ps1l_7_4 {D F i : Nat} {x3 x4 : AV} {g : Vw} (h : i < g 34 6) (h3 : g 34 6 ≤ 3) : vFn (vM MT0 D) nb_X9_payStaff (F + 1) 1 0 [vR 7, vR 34, vI i, x3, x4] [] g = vFn (vM MT0 D) nb_X9_payStaff F 2 0 [vR 7, vR 34, vI i, x3, x4] [] g := by
  refine (vF_g rfl rfl).trans ?_
  refine (vlt (x := i) (y := g 34 6) (by omega) h).trans ?_
  exact rfl
theorem ps1g_7_4 {D F i : Nat} {x3 x4 : AV} {g : Vw} (h : g 34 6 ≤ i) (h3 : i ≤ 3) : vFn (vM MT0 D) nb_X9_payStaff (F + 2) 1 0 [vR 7, vR 34, vI i, x3, x4] [] g = some ((1, 0), vW 3, g) := by
  refine (vF_g rfl rfl).trans ?_
  refine (vge2 (x := i) (y := g 34 6) (by omega) h).trans ?_
  refine (vF_g rfl rfl).trans ?_
  exact rfl
theorem ps3_7_4 {D F i e p : Nat} {g : Vw} (he : e < 12) (hi : i < 3) : vFn (vM MT0 D) nb_X9_payStaff (F + 2) 3 0 [vR 7, vR 34, vI i, vR (7 + 3 + e), vI p] [] g = vFn (vM MT0 D) nb_X9_payStaff F 1 0 [vR 7, vR 34, vI (i + 1), vR (7 + 3 + e), vI p] [] (psE 34 (7 + 3 + e) p g) := by
  rcases (show i = 0 ∨ i = 1 ∨ i = 2 by omega) with q | q | q <;> subst q <;> rcases (show e = 0 ∨ e = 1 ∨ e = 2 ∨ e = 3 ∨ e = 4 ∨ e = 5 ∨ e = 6 ∨ e = 7 ∨ e = 8 ∨ e = 9 ∨ e = 10 ∨ e = 11 by omega) with rfl | rfl | rfl | rfl | rfl | rfl | rfl | rfl | rfl | rfl | rfl | rfl <;> (refine (vF_g rfl rfl).trans ?_; refine (vF_g rfl rfl).trans ?_; exact rfl)
theorem ps4_7_4 {D F i e p : Nat} {g : Vw} (he : e < 12) (hi : i < 3) : vFn (vM MT0 D) nb_X9_payStaff (F + 2) 4 0 [vR 7, vR 34, vI i, vR (7 + 3 + e), vI p] [] g = vFn (vM MT0 D) nb_X9_payStaff F 1 0 [vR 7, vR 34, vI (i + 1), vR (7 + 3 + e), vI p] [] (vup g (7 + 3 + e) 6 ((g (7 + 3 + e) 6 + 1) % 4294967296)) := by
  rcases (show i = 0 ∨ i = 1 ∨ i = 2 by omega) with q | q | q <;> subst q <;> rcases (show e = 0 ∨ e = 1 ∨ e = 2 ∨ e = 3 ∨ e = 4 ∨ e = 5 ∨ e = 6 ∨ e = 7 ∨ e = 8 ∨ e = 9 ∨ e = 10 ∨ e = 11 by omega) with rfl | rfl | rfl | rfl | rfl | rfl | rfl | rfl | rfl | rfl | rfl | rfl <;> (refine (vF_g rfl rfl).trans ?_; refine (vF_g rfl rfl).trans ?_; exact rfl)
theorem psL_7_4 {D : Nat} {f : Vw} (hj : 4 < f 7 3) (h8 : f 7 3 ≤ 8) (h2 : f 7 2 ≤ 12) (h3 : f 34 6 ≤ 3) (hm : ∀ i, i < f 34 6 → f 35 i < f 7 2) : ∀ (m i F : Nat) (x3 x4 : AV) (g : Vw), i + m = f 34 6 → WkR 7 f g → ∃ g' : Vw, vFn (vM MT0 D) nb_X9_payStaff (F + 4 * m + 2) 1 0 [vR 7, vR 34, vI i, x3, x4] [] g = some ((1, 0), vW 3, g') ∧ WkR 7 f g' := by
  intro m
  induction m with
  | zero =>
    intro i F x3 x4 g hi hg
    have e6 : g 34 6 = f 34 6 := hg.2 34 6 (Or.inr (Or.inr (Or.inr (Or.inr ⟨4, by decide, Or.inl ⟨by decide, by decide, by decide, by decide⟩⟩))))
    rw [show F + 4 * 0 + 2 = F + 2 by omega]
    exact ⟨g, ps1g_7_4 (by omega) (by omega), hg⟩
  | succ m ih =>
    intro i F x3 x4 g hi hg
    have e6 : g 34 6 = f 34 6 := hg.2 34 6 (Or.inr (Or.inr (Or.inr (Or.inr ⟨4, by decide, Or.inl ⟨by decide, by decide, by decide, by decide⟩⟩))))
    have e1 : g 35 i = f 35 i := hg.2 35 i (Or.inr (Or.inr (Or.inr (Or.inr ⟨4, by decide, Or.inr (by decide)⟩))))
    have e2 : g 7 2 = f 7 2 := hg.2 7 2 (Or.inr (Or.inr (Or.inl ⟨rfl, by decide⟩)))
    have e3 : g 7 3 = f 7 3 := hg.2 7 3 (Or.inr (Or.inr (Or.inl ⟨rfl, by decide⟩)))
    have he := hm i (by omega)
    have he9 : f 35 i < 12 := by omega
    have hi3 : i < 3 := by omega
    rw [show F + 4 * (m + 1) + 2 = F + 4 * m + 2 + 2 + 1 + 1 by omega]
    have hs : ∃ G : Vw, vFn (vM MT0 D) nb_X9_payStaff (F + 4 * m + 2 + 2 + 1) 2 0 [vR 7, vR 34, vI i, x3, x4] [] g = vFn (vM MT0 D) nb_X9_payStaff (F + 4 * m + 2) 1 0 [vR 7, vR 34, vI (i + 1), vR (7 + 3 + f 35 i), vI (g_imul (g 34 3) (g (7 + 3 + f 35 i) 2))] [] G ∧ WkR 7 g G := by
      have hc := (show vFn (vM MT0 D) nb_X9_payStaff (F + 4 * m + 2 + 2 + 1) 2 0 [vR 7, vR 34, vI i, x3, x4] [] g = vc3 (bv (g 34 4)) (bv (g_imul (g 34 3) (g (7 + 3 + f 35 i) 2))) (vFn (vM MT0 D) nb_X9_payStaff (F + 4 * m + 2 + 2) 4 0 [vR 7, vR 34, vI i, vR (7 + 3 + f 35 i), vI (g_imul (g 34 3) (g (7 + 3 + f 35 i) 2))] [] g) (vFn (vM MT0 D) nb_X9_payStaff (F + 4 * m + 2 + 2) 3 0 [vR 7, vR 34, vI i, vR (7 + 3 + f 35 i), vI (g_imul (g 34 3) (g (7 + 3 + f 35 i) 2))] [] g) (vFn (vM MT0 D) nb_X9_payStaff (F + 4 * m + 2 + 2) 3 0 [vR 7, vR 34, vI i, vR (7 + 3 + f 35 i), vI (g_imul (g 34 3) (g (7 + 3 + f 35 i) 2))] [] g) from by
        rcases (show i = 0 ∨ i = 1 ∨ i = 2 by omega) with q | q | q
        · subst q; exact ps2_7_4_0 he9 e1
        · subst q; exact ps2_7_4_1 he9 e1
        · subst q; exact ps2_7_4_2 he9 e1)
      rcases vc3_or (u := bv (g 34 4)) (w := bv (g_imul (g 34 3) (g (7 + 3 + f 35 i) 2))) (a := vFn (vM MT0 D) nb_X9_payStaff (F + 4 * m + 2 + 2) 4 0 [vR 7, vR 34, vI i, vR (7 + 3 + f 35 i), vI (g_imul (g 34 3) (g (7 + 3 + f 35 i) 2))] [] g) (b := vFn (vM MT0 D) nb_X9_payStaff (F + 4 * m + 2 + 2) 3 0 [vR 7, vR 34, vI i, vR (7 + 3 + f 35 i), vI (g_imul (g 34 3) (g (7 + 3 + f 35 i) 2))] [] g) with q | q
      · exact ⟨_, hc.trans (q.trans (ps4_7_4 he9 hi3)), un_R (j := 4) (by omega) (by omega) (by omega)⟩
      · exact ⟨_, hc.trans (q.trans (ps3_7_4 he9 hi3)), ps_R (j := 4) (by omega) (by omega) (by omega) (by omega)⟩
    obtain ⟨G, s1, s2⟩ := hs
    obtain ⟨g', k1, k2⟩ := ih (i + 1) F (vR (7 + 3 + f 35 i)) (vI (g_imul (g 34 3) (g (7 + 3 + f 35 i) 2))) G (by omega) (wkR_tr hg s2)
    exact ⟨g', (ps1l_7_4 (by omega) (by omega)).trans (s1.trans k1), k2⟩
theorem ps_7_4 {D : Nat} {f : Vw} (hj : 4 < f 7 3) (h8 : f 7 3 ≤ 8) (h2 : f 7 2 ≤ 12) (h3 : f 34 6 ≤ 3) (hm : ∀ i, i < f 34 6 → f 35 i < f 7 2) : ∃ g, vM MT0 (D + 1) 90 [vR 7, vR 34] f = some ((1, 0), vW 3, g) ∧ WkR 7 f g := by
  obtain ⟨F, hF, go⟩ := vM_at (D := D) (y := 90) (as := [vR 7, vR 34]) (f := f) rfl rfl rfl rfl
  obtain ⟨g', k1, k2⟩ := psL_7_4 (D := D) hj h8 h2 h3 hm (f 34 6) 0 (F + 57 - 4 * f 34 6) (vW 3) (vW 3) f (by omega) wkR_rf
  rw [show F + 57 - 4 * f 34 6 + 4 * f 34 6 + 2 = F + 59 by omega] at k1
  have e0 : vFn (vM MT0 D) nb_X9_payStaff (F + 60) 0 0 (iniL 5 [vR 7, vR 34]) [] f = vFn (vM MT0 D) nb_X9_payStaff (F + 59) 1 0 [vR 7, vR 34, vI 0, vW 3, vW 3] [] f := by
    refine (vF_g rfl rfl).trans ?_
    exact rfl
  exact ⟨g', go _ (e0.trans k1), k2⟩
theorem hr2_7_5_0 {D F e r : Nat} {x4 : AV} {g : Vw} (he : e < 12) (h : g 38 0 = e) : vFn (vM MT0 D) nb_X9_hearReplies (F + 1) 2 0 [vR 7, vR 37, vI r, vI 0, x4] [] g = vFn (vM MT0 D) nb_X9_hearReplies F 1 0 [vR 7, vR 37, vI ((r + g (7 + 3 + e) 2) % 4294967296), vI (0 + 1), vI e] [] (vup g (7 + 17 + 3 * 5) e ((g (7 + 17 + 3 * 5) e + 1) % 4294967296)) := by
  refine (vF_g rfl rfl).trans ?_
  refine Eq.trans (b := vB (vM MT0 D) (vFn (vM MT0 D) nb_X9_hearReplies F) hr2T hr2R 0 [vR 7, vR 37, vI r, vI 0, x4] [vI (g 38 0)] g) rfl ?_
  rw [h]
  clear h
  rcases (show e = 0 ∨ e = 1 ∨ e = 2 ∨ e = 3 ∨ e = 4 ∨ e = 5 ∨ e = 6 ∨ e = 7 ∨ e = 8 ∨ e = 9 ∨ e = 10 ∨ e = 11 by omega) with rfl | rfl | rfl | rfl | rfl | rfl | rfl | rfl | rfl | rfl | rfl | rfl <;> exact rfl
theorem ps2_7_5_0 {D F e : Nat} {x3 x4 : AV} {g : Vw} (he : e < 12) (h : g 38 0 = e) : vFn (vM MT0 D) nb_X9_payStaff (F + 1) 2 0 [vR 7, vR 37, vI 0, x3, x4] [] g = vc3 (bv (g 37 4)) (bv (g_imul (g 37 3) (g (7 + 3 + e) 2))) (vFn (vM MT0 D) nb_X9_payStaff F 4 0 [vR 7, vR 37, vI 0, vR (7 + 3 + e), vI (g_imul (g 37 3) (g (7 + 3 + e) 2))] [] g) (vFn (vM MT0 D) nb_X9_payStaff F 3 0 [vR 7, vR 37, vI 0, vR (7 + 3 + e), vI (g_imul (g 37 3) (g (7 + 3 + e) 2))] [] g) (vFn (vM MT0 D) nb_X9_payStaff F 3 0 [vR 7, vR 37, vI 0, vR (7 + 3 + e), vI (g_imul (g 37 3) (g (7 + 3 + e) 2))] [] g) := by
  refine (vF_g rfl rfl).trans ?_
  refine Eq.trans (b := vB (vM MT0 D) (vFn (vM MT0 D) nb_X9_payStaff F) ps2T ps2R 0 [vR 7, vR 37, vI 0, x3, x4] [vI (g 38 0), vR 8] g) rfl ?_
  rw [h]
  clear h
  rcases (show e = 0 ∨ e = 1 ∨ e = 2 ∨ e = 3 ∨ e = 4 ∨ e = 5 ∨ e = 6 ∨ e = 7 ∨ e = 8 ∨ e = 9 ∨ e = 10 ∨ e = 11 by omega) with rfl | rfl | rfl | rfl | rfl | rfl | rfl | rfl | rfl | rfl | rfl | rfl <;> exact rfl
theorem hr2_7_5_1 {D F e r : Nat} {x4 : AV} {g : Vw} (he : e < 12) (h : g 38 1 = e) : vFn (vM MT0 D) nb_X9_hearReplies (F + 1) 2 0 [vR 7, vR 37, vI r, vI 1, x4] [] g = vFn (vM MT0 D) nb_X9_hearReplies F 1 0 [vR 7, vR 37, vI ((r + g (7 + 3 + e) 2) % 4294967296), vI (1 + 1), vI e] [] (vup g (7 + 17 + 3 * 5) e ((g (7 + 17 + 3 * 5) e + 1) % 4294967296)) := by
  refine (vF_g rfl rfl).trans ?_
  refine Eq.trans (b := vB (vM MT0 D) (vFn (vM MT0 D) nb_X9_hearReplies F) hr2T hr2R 0 [vR 7, vR 37, vI r, vI 1, x4] [vI (g 38 1)] g) rfl ?_
  rw [h]
  clear h
  rcases (show e = 0 ∨ e = 1 ∨ e = 2 ∨ e = 3 ∨ e = 4 ∨ e = 5 ∨ e = 6 ∨ e = 7 ∨ e = 8 ∨ e = 9 ∨ e = 10 ∨ e = 11 by omega) with rfl | rfl | rfl | rfl | rfl | rfl | rfl | rfl | rfl | rfl | rfl | rfl <;> exact rfl
theorem ps2_7_5_1 {D F e : Nat} {x3 x4 : AV} {g : Vw} (he : e < 12) (h : g 38 1 = e) : vFn (vM MT0 D) nb_X9_payStaff (F + 1) 2 0 [vR 7, vR 37, vI 1, x3, x4] [] g = vc3 (bv (g 37 4)) (bv (g_imul (g 37 3) (g (7 + 3 + e) 2))) (vFn (vM MT0 D) nb_X9_payStaff F 4 0 [vR 7, vR 37, vI 1, vR (7 + 3 + e), vI (g_imul (g 37 3) (g (7 + 3 + e) 2))] [] g) (vFn (vM MT0 D) nb_X9_payStaff F 3 0 [vR 7, vR 37, vI 1, vR (7 + 3 + e), vI (g_imul (g 37 3) (g (7 + 3 + e) 2))] [] g) (vFn (vM MT0 D) nb_X9_payStaff F 3 0 [vR 7, vR 37, vI 1, vR (7 + 3 + e), vI (g_imul (g 37 3) (g (7 + 3 + e) 2))] [] g) := by
  refine (vF_g rfl rfl).trans ?_
  refine Eq.trans (b := vB (vM MT0 D) (vFn (vM MT0 D) nb_X9_payStaff F) ps2T ps2R 0 [vR 7, vR 37, vI 1, x3, x4] [vI (g 38 1), vR 8] g) rfl ?_
  rw [h]
  clear h
  rcases (show e = 0 ∨ e = 1 ∨ e = 2 ∨ e = 3 ∨ e = 4 ∨ e = 5 ∨ e = 6 ∨ e = 7 ∨ e = 8 ∨ e = 9 ∨ e = 10 ∨ e = 11 by omega) with rfl | rfl | rfl | rfl | rfl | rfl | rfl | rfl | rfl | rfl | rfl | rfl <;> exact rfl
theorem hr2_7_5_2 {D F e r : Nat} {x4 : AV} {g : Vw} (he : e < 12) (h : g 38 2 = e) : vFn (vM MT0 D) nb_X9_hearReplies (F + 1) 2 0 [vR 7, vR 37, vI r, vI 2, x4] [] g = vFn (vM MT0 D) nb_X9_hearReplies F 1 0 [vR 7, vR 37, vI ((r + g (7 + 3 + e) 2) % 4294967296), vI (2 + 1), vI e] [] (vup g (7 + 17 + 3 * 5) e ((g (7 + 17 + 3 * 5) e + 1) % 4294967296)) := by
  refine (vF_g rfl rfl).trans ?_
  refine Eq.trans (b := vB (vM MT0 D) (vFn (vM MT0 D) nb_X9_hearReplies F) hr2T hr2R 0 [vR 7, vR 37, vI r, vI 2, x4] [vI (g 38 2)] g) rfl ?_
  rw [h]
  clear h
  rcases (show e = 0 ∨ e = 1 ∨ e = 2 ∨ e = 3 ∨ e = 4 ∨ e = 5 ∨ e = 6 ∨ e = 7 ∨ e = 8 ∨ e = 9 ∨ e = 10 ∨ e = 11 by omega) with rfl | rfl | rfl | rfl | rfl | rfl | rfl | rfl | rfl | rfl | rfl | rfl <;> exact rfl
theorem ps2_7_5_2 {D F e : Nat} {x3 x4 : AV} {g : Vw} (he : e < 12) (h : g 38 2 = e) : vFn (vM MT0 D) nb_X9_payStaff (F + 1) 2 0 [vR 7, vR 37, vI 2, x3, x4] [] g = vc3 (bv (g 37 4)) (bv (g_imul (g 37 3) (g (7 + 3 + e) 2))) (vFn (vM MT0 D) nb_X9_payStaff F 4 0 [vR 7, vR 37, vI 2, vR (7 + 3 + e), vI (g_imul (g 37 3) (g (7 + 3 + e) 2))] [] g) (vFn (vM MT0 D) nb_X9_payStaff F 3 0 [vR 7, vR 37, vI 2, vR (7 + 3 + e), vI (g_imul (g 37 3) (g (7 + 3 + e) 2))] [] g) (vFn (vM MT0 D) nb_X9_payStaff F 3 0 [vR 7, vR 37, vI 2, vR (7 + 3 + e), vI (g_imul (g 37 3) (g (7 + 3 + e) 2))] [] g) := by
  refine (vF_g rfl rfl).trans ?_
  refine Eq.trans (b := vB (vM MT0 D) (vFn (vM MT0 D) nb_X9_payStaff F) ps2T ps2R 0 [vR 7, vR 37, vI 2, x3, x4] [vI (g 38 2), vR 8] g) rfl ?_
  rw [h]
  clear h
  rcases (show e = 0 ∨ e = 1 ∨ e = 2 ∨ e = 3 ∨ e = 4 ∨ e = 5 ∨ e = 6 ∨ e = 7 ∨ e = 8 ∨ e = 9 ∨ e = 10 ∨ e = 11 by omega) with rfl | rfl | rfl | rfl | rfl | rfl | rfl | rfl | rfl | rfl | rfl | rfl <;> exact rfl
theorem hr1l_7_5 {D F i r : Nat} {x4 : AV} {g : Vw} (h : i < g 37 6) (h3 : g 37 6 ≤ 3) : vFn (vM MT0 D) nb_X9_hearReplies (F + 1) 1 0 [vR 7, vR 37, vI r, vI i, x4] [] g = vFn (vM MT0 D) nb_X9_hearReplies F 2 0 [vR 7, vR 37, vI r, vI i, x4] [] g := by
  refine (vF_g rfl rfl).trans ?_
  refine (vlt (x := i) (y := g 37 6) (by omega) h).trans ?_
  exact rfl
theorem hr1g_7_5 {D F i r : Nat} {x4 : AV} {g : Vw} (h : g 37 6 ≤ i) (h3 : i ≤ 3) : vFn (vM MT0 D) nb_X9_hearReplies (F + 1) 1 0 [vR 7, vR 37, vI r, vI i, x4] [] g = vFn (vM MT0 D) nb_X9_hearReplies F 3 0 [vR 7, vR 37, vI r, vI i, x4] [] g := by
  refine (vF_g rfl rfl).trans ?_
  refine (vge2 (x := i) (y := g 37 6) (by omega) h).trans ?_
  exact rfl
theorem hr3_7_5 {D F r : Nat} {x3 x4 : AV} {g : Vw} : vFn (vM MT0 D) nb_X9_hearReplies (F + 1) 3 0 [vR 7, vR 37, vI r, x3, x4] [] g = some ((1, 0), vW 3, hrE 7 37 r g) := by
  refine (vF_g rfl rfl).trans ?_
  exact rfl
theorem hrL_7_5 {D : Nat} {f : Vw} (h3 : f 37 6 ≤ 3) (hm : ∀ i, i < f 37 6 → f 38 i < 12) : ∀ (m i r F : Nat) (x4 : AV) (g : Vw), i + m = f 37 6 → (∀ a b, a ≠ 7 + 17 + 3 * 5 → g a b = f a b) → ∃ (r' i' : Nat) (y4 : AV) (g' : Vw), vFn (vM MT0 D) nb_X9_hearReplies (F + 2 * m + 1) 1 0 [vR 7, vR 37, vI r, vI i, x4] [] g = vFn (vM MT0 D) nb_X9_hearReplies F 3 0 [vR 7, vR 37, vI r', vI i', y4] [] g' ∧ ∀ a b, a ≠ 7 + 17 + 3 * 5 → g' a b = f a b := by
  intro m
  induction m with
  | zero =>
    intro i r F x4 g hi hg
    have e6 := hg 37 6 (by decide)
    rw [show F + 2 * 0 + 1 = F + 1 by omega]
    exact ⟨r, i, x4, g, hr1g_7_5 (by omega) (by omega), hg⟩
  | succ m ih =>
    intro i r F x4 g hi hg
    have e6 := hg 37 6 (by decide)
    have e1 := hg 38 i (by decide)
    have he := hm i (by omega)
    have hs : ∀ r9 : Nat, vFn (vM MT0 D) nb_X9_hearReplies (F + 2 * m + 1 + 1) 2 0 [vR 7, vR 37, vI r, vI i, x4] [] g = vFn (vM MT0 D) nb_X9_hearReplies (F + 2 * m + 1) 1 0 [vR 7, vR 37, vI ((r + g (7 + 3 + f 38 i) 2) % 4294967296), vI (i + 1), vI (f 38 i)] [] (vup g (7 + 17 + 3 * 5) (f 38 i) ((g (7 + 17 + 3 * 5) (f 38 i) + 1) % 4294967296)) := fun _ => by
      rcases (show i = 0 ∨ i = 1 ∨ i = 2 by omega) with q | q | q
      · subst q; exact hr2_7_5_0 he e1
      · subst q; exact hr2_7_5_1 he e1
      · subst q; exact hr2_7_5_2 he e1
    obtain ⟨r', i', y4, g', k1, k2⟩ := ih (i + 1) ((r + g (7 + 3 + f 38 i) 2) % 4294967296) F (vI (f 38 i)) (vup g (7 + 17 + 3 * 5) (f 38 i) ((g (7 + 17 + 3 * 5) (f 38 i) + 1) % 4294967296)) (by omega) (fun a b h => (vup_ne (Or.inl h)).trans (hg a b h))
    refine ⟨r', i', y4, g', ?_, k2⟩
    rw [show F + 2 * (m + 1) + 1 = F + 2 * m + 1 + 1 + 1 by omega]
    exact (hr1l_7_5 (by omega) (by omega)).trans ((hs 0).trans k1)
theorem hr_7_5 {D : Nat} {f : Vw} (hj : 5 < f 7 3) (h8 : f 7 3 ≤ 8) (h2 : f 7 2 ≤ 12) (h3 : f 37 6 ≤ 3) (hm : ∀ i, i < f 37 6 → f 38 i < 12) : ∃ g, vM MT0 (D + 1) 89 [vR 7, vR 37] f = some ((1, 0), vW 3, g) ∧ WkR 7 f g := by
  obtain ⟨F, hF, go⟩ := vM_at (D := D) (y := 89) (as := [vR 7, vR 37]) (f := f) rfl rfl rfl rfl
  obtain ⟨r', i', y4, g', k1, k2⟩ := hrL_7_5 (D := D) h3 hm (f 37 6) 0 0 (F + 57 - 2 * f 37 6 + 1) (vW 3) f (by omega) (fun _ _ _ => rfl)
  rw [show F + 57 - 2 * f 37 6 + 1 + 2 * f 37 6 + 1 = F + 59 by omega] at k1
  have e0 : vFn (vM MT0 D) nb_X9_hearReplies (F + 60) 0 0 (iniL 5 [vR 7, vR 37]) [] f = vFn (vM MT0 D) nb_X9_hearReplies (F + 59) 1 0 [vR 7, vR 37, vI 0, vI 0, vW 3] [] f := by
    refine (vF_g rfl rfl).trans ?_
    exact rfl
  exact ⟨_, go _ (e0.trans (k1.trans hr3_7_5)), hr_R hj h8 k2 h2⟩
theorem ps1l_7_5 {D F i : Nat} {x3 x4 : AV} {g : Vw} (h : i < g 37 6) (h3 : g 37 6 ≤ 3) : vFn (vM MT0 D) nb_X9_payStaff (F + 1) 1 0 [vR 7, vR 37, vI i, x3, x4] [] g = vFn (vM MT0 D) nb_X9_payStaff F 2 0 [vR 7, vR 37, vI i, x3, x4] [] g := by
  refine (vF_g rfl rfl).trans ?_
  refine (vlt (x := i) (y := g 37 6) (by omega) h).trans ?_
  exact rfl
theorem ps1g_7_5 {D F i : Nat} {x3 x4 : AV} {g : Vw} (h : g 37 6 ≤ i) (h3 : i ≤ 3) : vFn (vM MT0 D) nb_X9_payStaff (F + 2) 1 0 [vR 7, vR 37, vI i, x3, x4] [] g = some ((1, 0), vW 3, g) := by
  refine (vF_g rfl rfl).trans ?_
  refine (vge2 (x := i) (y := g 37 6) (by omega) h).trans ?_
  refine (vF_g rfl rfl).trans ?_
  exact rfl
theorem ps3_7_5 {D F i e p : Nat} {g : Vw} (he : e < 12) (hi : i < 3) : vFn (vM MT0 D) nb_X9_payStaff (F + 2) 3 0 [vR 7, vR 37, vI i, vR (7 + 3 + e), vI p] [] g = vFn (vM MT0 D) nb_X9_payStaff F 1 0 [vR 7, vR 37, vI (i + 1), vR (7 + 3 + e), vI p] [] (psE 37 (7 + 3 + e) p g) := by
  rcases (show i = 0 ∨ i = 1 ∨ i = 2 by omega) with q | q | q <;> subst q <;> rcases (show e = 0 ∨ e = 1 ∨ e = 2 ∨ e = 3 ∨ e = 4 ∨ e = 5 ∨ e = 6 ∨ e = 7 ∨ e = 8 ∨ e = 9 ∨ e = 10 ∨ e = 11 by omega) with rfl | rfl | rfl | rfl | rfl | rfl | rfl | rfl | rfl | rfl | rfl | rfl <;> (refine (vF_g rfl rfl).trans ?_; refine (vF_g rfl rfl).trans ?_; exact rfl)
theorem ps4_7_5 {D F i e p : Nat} {g : Vw} (he : e < 12) (hi : i < 3) : vFn (vM MT0 D) nb_X9_payStaff (F + 2) 4 0 [vR 7, vR 37, vI i, vR (7 + 3 + e), vI p] [] g = vFn (vM MT0 D) nb_X9_payStaff F 1 0 [vR 7, vR 37, vI (i + 1), vR (7 + 3 + e), vI p] [] (vup g (7 + 3 + e) 6 ((g (7 + 3 + e) 6 + 1) % 4294967296)) := by
  rcases (show i = 0 ∨ i = 1 ∨ i = 2 by omega) with q | q | q <;> subst q <;> rcases (show e = 0 ∨ e = 1 ∨ e = 2 ∨ e = 3 ∨ e = 4 ∨ e = 5 ∨ e = 6 ∨ e = 7 ∨ e = 8 ∨ e = 9 ∨ e = 10 ∨ e = 11 by omega) with rfl | rfl | rfl | rfl | rfl | rfl | rfl | rfl | rfl | rfl | rfl | rfl <;> (refine (vF_g rfl rfl).trans ?_; refine (vF_g rfl rfl).trans ?_; exact rfl)
theorem psL_7_5 {D : Nat} {f : Vw} (hj : 5 < f 7 3) (h8 : f 7 3 ≤ 8) (h2 : f 7 2 ≤ 12) (h3 : f 37 6 ≤ 3) (hm : ∀ i, i < f 37 6 → f 38 i < f 7 2) : ∀ (m i F : Nat) (x3 x4 : AV) (g : Vw), i + m = f 37 6 → WkR 7 f g → ∃ g' : Vw, vFn (vM MT0 D) nb_X9_payStaff (F + 4 * m + 2) 1 0 [vR 7, vR 37, vI i, x3, x4] [] g = some ((1, 0), vW 3, g') ∧ WkR 7 f g' := by
  intro m
  induction m with
  | zero =>
    intro i F x3 x4 g hi hg
    have e6 : g 37 6 = f 37 6 := hg.2 37 6 (Or.inr (Or.inr (Or.inr (Or.inr ⟨5, by decide, Or.inl ⟨by decide, by decide, by decide, by decide⟩⟩))))
    rw [show F + 4 * 0 + 2 = F + 2 by omega]
    exact ⟨g, ps1g_7_5 (by omega) (by omega), hg⟩
  | succ m ih =>
    intro i F x3 x4 g hi hg
    have e6 : g 37 6 = f 37 6 := hg.2 37 6 (Or.inr (Or.inr (Or.inr (Or.inr ⟨5, by decide, Or.inl ⟨by decide, by decide, by decide, by decide⟩⟩))))
    have e1 : g 38 i = f 38 i := hg.2 38 i (Or.inr (Or.inr (Or.inr (Or.inr ⟨5, by decide, Or.inr (by decide)⟩))))
    have e2 : g 7 2 = f 7 2 := hg.2 7 2 (Or.inr (Or.inr (Or.inl ⟨rfl, by decide⟩)))
    have e3 : g 7 3 = f 7 3 := hg.2 7 3 (Or.inr (Or.inr (Or.inl ⟨rfl, by decide⟩)))
    have he := hm i (by omega)
    have he9 : f 38 i < 12 := by omega
    have hi3 : i < 3 := by omega
    rw [show F + 4 * (m + 1) + 2 = F + 4 * m + 2 + 2 + 1 + 1 by omega]
    have hs : ∃ G : Vw, vFn (vM MT0 D) nb_X9_payStaff (F + 4 * m + 2 + 2 + 1) 2 0 [vR 7, vR 37, vI i, x3, x4] [] g = vFn (vM MT0 D) nb_X9_payStaff (F + 4 * m + 2) 1 0 [vR 7, vR 37, vI (i + 1), vR (7 + 3 + f 38 i), vI (g_imul (g 37 3) (g (7 + 3 + f 38 i) 2))] [] G ∧ WkR 7 g G := by
      have hc := (show vFn (vM MT0 D) nb_X9_payStaff (F + 4 * m + 2 + 2 + 1) 2 0 [vR 7, vR 37, vI i, x3, x4] [] g = vc3 (bv (g 37 4)) (bv (g_imul (g 37 3) (g (7 + 3 + f 38 i) 2))) (vFn (vM MT0 D) nb_X9_payStaff (F + 4 * m + 2 + 2) 4 0 [vR 7, vR 37, vI i, vR (7 + 3 + f 38 i), vI (g_imul (g 37 3) (g (7 + 3 + f 38 i) 2))] [] g) (vFn (vM MT0 D) nb_X9_payStaff (F + 4 * m + 2 + 2) 3 0 [vR 7, vR 37, vI i, vR (7 + 3 + f 38 i), vI (g_imul (g 37 3) (g (7 + 3 + f 38 i) 2))] [] g) (vFn (vM MT0 D) nb_X9_payStaff (F + 4 * m + 2 + 2) 3 0 [vR 7, vR 37, vI i, vR (7 + 3 + f 38 i), vI (g_imul (g 37 3) (g (7 + 3 + f 38 i) 2))] [] g) from by
        rcases (show i = 0 ∨ i = 1 ∨ i = 2 by omega) with q | q | q
        · subst q; exact ps2_7_5_0 he9 e1
        · subst q; exact ps2_7_5_1 he9 e1
        · subst q; exact ps2_7_5_2 he9 e1)
      rcases vc3_or (u := bv (g 37 4)) (w := bv (g_imul (g 37 3) (g (7 + 3 + f 38 i) 2))) (a := vFn (vM MT0 D) nb_X9_payStaff (F + 4 * m + 2 + 2) 4 0 [vR 7, vR 37, vI i, vR (7 + 3 + f 38 i), vI (g_imul (g 37 3) (g (7 + 3 + f 38 i) 2))] [] g) (b := vFn (vM MT0 D) nb_X9_payStaff (F + 4 * m + 2 + 2) 3 0 [vR 7, vR 37, vI i, vR (7 + 3 + f 38 i), vI (g_imul (g 37 3) (g (7 + 3 + f 38 i) 2))] [] g) with q | q
      · exact ⟨_, hc.trans (q.trans (ps4_7_5 he9 hi3)), un_R (j := 5) (by omega) (by omega) (by omega)⟩
      · exact ⟨_, hc.trans (q.trans (ps3_7_5 he9 hi3)), ps_R (j := 5) (by omega) (by omega) (by omega) (by omega)⟩
    obtain ⟨G, s1, s2⟩ := hs
    obtain ⟨g', k1, k2⟩ := ih (i + 1) F (vR (7 + 3 + f 38 i)) (vI (g_imul (g 37 3) (g (7 + 3 + f 38 i) 2))) G (by omega) (wkR_tr hg s2)
    exact ⟨g', (ps1l_7_5 (by omega) (by omega)).trans (s1.trans k1), k2⟩
theorem ps_7_5 {D : Nat} {f : Vw} (hj : 5 < f 7 3) (h8 : f 7 3 ≤ 8) (h2 : f 7 2 ≤ 12) (h3 : f 37 6 ≤ 3) (hm : ∀ i, i < f 37 6 → f 38 i < f 7 2) : ∃ g, vM MT0 (D + 1) 90 [vR 7, vR 37] f = some ((1, 0), vW 3, g) ∧ WkR 7 f g := by
  obtain ⟨F, hF, go⟩ := vM_at (D := D) (y := 90) (as := [vR 7, vR 37]) (f := f) rfl rfl rfl rfl
  obtain ⟨g', k1, k2⟩ := psL_7_5 (D := D) hj h8 h2 h3 hm (f 37 6) 0 (F + 57 - 4 * f 37 6) (vW 3) (vW 3) f (by omega) wkR_rf
  rw [show F + 57 - 4 * f 37 6 + 4 * f 37 6 + 2 = F + 59 by omega] at k1
  have e0 : vFn (vM MT0 D) nb_X9_payStaff (F + 60) 0 0 (iniL 5 [vR 7, vR 37]) [] f = vFn (vM MT0 D) nb_X9_payStaff (F + 59) 1 0 [vR 7, vR 37, vI 0, vW 3, vW 3] [] f := by
    refine (vF_g rfl rfl).trans ?_
    exact rfl
  exact ⟨g', go _ (e0.trans k1), k2⟩
theorem hr2_7_6_0 {D F e r : Nat} {x4 : AV} {g : Vw} (he : e < 12) (h : g 41 0 = e) : vFn (vM MT0 D) nb_X9_hearReplies (F + 1) 2 0 [vR 7, vR 40, vI r, vI 0, x4] [] g = vFn (vM MT0 D) nb_X9_hearReplies F 1 0 [vR 7, vR 40, vI ((r + g (7 + 3 + e) 2) % 4294967296), vI (0 + 1), vI e] [] (vup g (7 + 17 + 3 * 6) e ((g (7 + 17 + 3 * 6) e + 1) % 4294967296)) := by
  refine (vF_g rfl rfl).trans ?_
  refine Eq.trans (b := vB (vM MT0 D) (vFn (vM MT0 D) nb_X9_hearReplies F) hr2T hr2R 0 [vR 7, vR 40, vI r, vI 0, x4] [vI (g 41 0)] g) rfl ?_
  rw [h]
  clear h
  rcases (show e = 0 ∨ e = 1 ∨ e = 2 ∨ e = 3 ∨ e = 4 ∨ e = 5 ∨ e = 6 ∨ e = 7 ∨ e = 8 ∨ e = 9 ∨ e = 10 ∨ e = 11 by omega) with rfl | rfl | rfl | rfl | rfl | rfl | rfl | rfl | rfl | rfl | rfl | rfl <;> exact rfl
theorem ps2_7_6_0 {D F e : Nat} {x3 x4 : AV} {g : Vw} (he : e < 12) (h : g 41 0 = e) : vFn (vM MT0 D) nb_X9_payStaff (F + 1) 2 0 [vR 7, vR 40, vI 0, x3, x4] [] g = vc3 (bv (g 40 4)) (bv (g_imul (g 40 3) (g (7 + 3 + e) 2))) (vFn (vM MT0 D) nb_X9_payStaff F 4 0 [vR 7, vR 40, vI 0, vR (7 + 3 + e), vI (g_imul (g 40 3) (g (7 + 3 + e) 2))] [] g) (vFn (vM MT0 D) nb_X9_payStaff F 3 0 [vR 7, vR 40, vI 0, vR (7 + 3 + e), vI (g_imul (g 40 3) (g (7 + 3 + e) 2))] [] g) (vFn (vM MT0 D) nb_X9_payStaff F 3 0 [vR 7, vR 40, vI 0, vR (7 + 3 + e), vI (g_imul (g 40 3) (g (7 + 3 + e) 2))] [] g) := by
  refine (vF_g rfl rfl).trans ?_
  refine Eq.trans (b := vB (vM MT0 D) (vFn (vM MT0 D) nb_X9_payStaff F) ps2T ps2R 0 [vR 7, vR 40, vI 0, x3, x4] [vI (g 41 0), vR 8] g) rfl ?_
  rw [h]
  clear h
  rcases (show e = 0 ∨ e = 1 ∨ e = 2 ∨ e = 3 ∨ e = 4 ∨ e = 5 ∨ e = 6 ∨ e = 7 ∨ e = 8 ∨ e = 9 ∨ e = 10 ∨ e = 11 by omega) with rfl | rfl | rfl | rfl | rfl | rfl | rfl | rfl | rfl | rfl | rfl | rfl <;> exact rfl
theorem hr2_7_6_1 {D F e r : Nat} {x4 : AV} {g : Vw} (he : e < 12) (h : g 41 1 = e) : vFn (vM MT0 D) nb_X9_hearReplies (F + 1) 2 0 [vR 7, vR 40, vI r, vI 1, x4] [] g = vFn (vM MT0 D) nb_X9_hearReplies F 1 0 [vR 7, vR 40, vI ((r + g (7 + 3 + e) 2) % 4294967296), vI (1 + 1), vI e] [] (vup g (7 + 17 + 3 * 6) e ((g (7 + 17 + 3 * 6) e + 1) % 4294967296)) := by
  refine (vF_g rfl rfl).trans ?_
  refine Eq.trans (b := vB (vM MT0 D) (vFn (vM MT0 D) nb_X9_hearReplies F) hr2T hr2R 0 [vR 7, vR 40, vI r, vI 1, x4] [vI (g 41 1)] g) rfl ?_
  rw [h]
  clear h
  rcases (show e = 0 ∨ e = 1 ∨ e = 2 ∨ e = 3 ∨ e = 4 ∨ e = 5 ∨ e = 6 ∨ e = 7 ∨ e = 8 ∨ e = 9 ∨ e = 10 ∨ e = 11 by omega) with rfl | rfl | rfl | rfl | rfl | rfl | rfl | rfl | rfl | rfl | rfl | rfl <;> exact rfl
theorem ps2_7_6_1 {D F e : Nat} {x3 x4 : AV} {g : Vw} (he : e < 12) (h : g 41 1 = e) : vFn (vM MT0 D) nb_X9_payStaff (F + 1) 2 0 [vR 7, vR 40, vI 1, x3, x4] [] g = vc3 (bv (g 40 4)) (bv (g_imul (g 40 3) (g (7 + 3 + e) 2))) (vFn (vM MT0 D) nb_X9_payStaff F 4 0 [vR 7, vR 40, vI 1, vR (7 + 3 + e), vI (g_imul (g 40 3) (g (7 + 3 + e) 2))] [] g) (vFn (vM MT0 D) nb_X9_payStaff F 3 0 [vR 7, vR 40, vI 1, vR (7 + 3 + e), vI (g_imul (g 40 3) (g (7 + 3 + e) 2))] [] g) (vFn (vM MT0 D) nb_X9_payStaff F 3 0 [vR 7, vR 40, vI 1, vR (7 + 3 + e), vI (g_imul (g 40 3) (g (7 + 3 + e) 2))] [] g) := by
  refine (vF_g rfl rfl).trans ?_
  refine Eq.trans (b := vB (vM MT0 D) (vFn (vM MT0 D) nb_X9_payStaff F) ps2T ps2R 0 [vR 7, vR 40, vI 1, x3, x4] [vI (g 41 1), vR 8] g) rfl ?_
  rw [h]
  clear h
  rcases (show e = 0 ∨ e = 1 ∨ e = 2 ∨ e = 3 ∨ e = 4 ∨ e = 5 ∨ e = 6 ∨ e = 7 ∨ e = 8 ∨ e = 9 ∨ e = 10 ∨ e = 11 by omega) with rfl | rfl | rfl | rfl | rfl | rfl | rfl | rfl | rfl | rfl | rfl | rfl <;> exact rfl
theorem hr2_7_6_2 {D F e r : Nat} {x4 : AV} {g : Vw} (he : e < 12) (h : g 41 2 = e) : vFn (vM MT0 D) nb_X9_hearReplies (F + 1) 2 0 [vR 7, vR 40, vI r, vI 2, x4] [] g = vFn (vM MT0 D) nb_X9_hearReplies F 1 0 [vR 7, vR 40, vI ((r + g (7 + 3 + e) 2) % 4294967296), vI (2 + 1), vI e] [] (vup g (7 + 17 + 3 * 6) e ((g (7 + 17 + 3 * 6) e + 1) % 4294967296)) := by
  refine (vF_g rfl rfl).trans ?_
  refine Eq.trans (b := vB (vM MT0 D) (vFn (vM MT0 D) nb_X9_hearReplies F) hr2T hr2R 0 [vR 7, vR 40, vI r, vI 2, x4] [vI (g 41 2)] g) rfl ?_
  rw [h]
  clear h
  rcases (show e = 0 ∨ e = 1 ∨ e = 2 ∨ e = 3 ∨ e = 4 ∨ e = 5 ∨ e = 6 ∨ e = 7 ∨ e = 8 ∨ e = 9 ∨ e = 10 ∨ e = 11 by omega) with rfl | rfl | rfl | rfl | rfl | rfl | rfl | rfl | rfl | rfl | rfl | rfl <;> exact rfl
theorem ps2_7_6_2 {D F e : Nat} {x3 x4 : AV} {g : Vw} (he : e < 12) (h : g 41 2 = e) : vFn (vM MT0 D) nb_X9_payStaff (F + 1) 2 0 [vR 7, vR 40, vI 2, x3, x4] [] g = vc3 (bv (g 40 4)) (bv (g_imul (g 40 3) (g (7 + 3 + e) 2))) (vFn (vM MT0 D) nb_X9_payStaff F 4 0 [vR 7, vR 40, vI 2, vR (7 + 3 + e), vI (g_imul (g 40 3) (g (7 + 3 + e) 2))] [] g) (vFn (vM MT0 D) nb_X9_payStaff F 3 0 [vR 7, vR 40, vI 2, vR (7 + 3 + e), vI (g_imul (g 40 3) (g (7 + 3 + e) 2))] [] g) (vFn (vM MT0 D) nb_X9_payStaff F 3 0 [vR 7, vR 40, vI 2, vR (7 + 3 + e), vI (g_imul (g 40 3) (g (7 + 3 + e) 2))] [] g) := by
  refine (vF_g rfl rfl).trans ?_
  refine Eq.trans (b := vB (vM MT0 D) (vFn (vM MT0 D) nb_X9_payStaff F) ps2T ps2R 0 [vR 7, vR 40, vI 2, x3, x4] [vI (g 41 2), vR 8] g) rfl ?_
  rw [h]
  clear h
  rcases (show e = 0 ∨ e = 1 ∨ e = 2 ∨ e = 3 ∨ e = 4 ∨ e = 5 ∨ e = 6 ∨ e = 7 ∨ e = 8 ∨ e = 9 ∨ e = 10 ∨ e = 11 by omega) with rfl | rfl | rfl | rfl | rfl | rfl | rfl | rfl | rfl | rfl | rfl | rfl <;> exact rfl
theorem hr1l_7_6 {D F i r : Nat} {x4 : AV} {g : Vw} (h : i < g 40 6) (h3 : g 40 6 ≤ 3) : vFn (vM MT0 D) nb_X9_hearReplies (F + 1) 1 0 [vR 7, vR 40, vI r, vI i, x4] [] g = vFn (vM MT0 D) nb_X9_hearReplies F 2 0 [vR 7, vR 40, vI r, vI i, x4] [] g := by
  refine (vF_g rfl rfl).trans ?_
  refine (vlt (x := i) (y := g 40 6) (by omega) h).trans ?_
  exact rfl
theorem hr1g_7_6 {D F i r : Nat} {x4 : AV} {g : Vw} (h : g 40 6 ≤ i) (h3 : i ≤ 3) : vFn (vM MT0 D) nb_X9_hearReplies (F + 1) 1 0 [vR 7, vR 40, vI r, vI i, x4] [] g = vFn (vM MT0 D) nb_X9_hearReplies F 3 0 [vR 7, vR 40, vI r, vI i, x4] [] g := by
  refine (vF_g rfl rfl).trans ?_
  refine (vge2 (x := i) (y := g 40 6) (by omega) h).trans ?_
  exact rfl
theorem hr3_7_6 {D F r : Nat} {x3 x4 : AV} {g : Vw} : vFn (vM MT0 D) nb_X9_hearReplies (F + 1) 3 0 [vR 7, vR 40, vI r, x3, x4] [] g = some ((1, 0), vW 3, hrE 7 40 r g) := by
  refine (vF_g rfl rfl).trans ?_
  exact rfl
theorem hrL_7_6 {D : Nat} {f : Vw} (h3 : f 40 6 ≤ 3) (hm : ∀ i, i < f 40 6 → f 41 i < 12) : ∀ (m i r F : Nat) (x4 : AV) (g : Vw), i + m = f 40 6 → (∀ a b, a ≠ 7 + 17 + 3 * 6 → g a b = f a b) → ∃ (r' i' : Nat) (y4 : AV) (g' : Vw), vFn (vM MT0 D) nb_X9_hearReplies (F + 2 * m + 1) 1 0 [vR 7, vR 40, vI r, vI i, x4] [] g = vFn (vM MT0 D) nb_X9_hearReplies F 3 0 [vR 7, vR 40, vI r', vI i', y4] [] g' ∧ ∀ a b, a ≠ 7 + 17 + 3 * 6 → g' a b = f a b := by
  intro m
  induction m with
  | zero =>
    intro i r F x4 g hi hg
    have e6 := hg 40 6 (by decide)
    rw [show F + 2 * 0 + 1 = F + 1 by omega]
    exact ⟨r, i, x4, g, hr1g_7_6 (by omega) (by omega), hg⟩
  | succ m ih =>
    intro i r F x4 g hi hg
    have e6 := hg 40 6 (by decide)
    have e1 := hg 41 i (by decide)
    have he := hm i (by omega)
    have hs : ∀ r9 : Nat, vFn (vM MT0 D) nb_X9_hearReplies (F + 2 * m + 1 + 1) 2 0 [vR 7, vR 40, vI r, vI i, x4] [] g = vFn (vM MT0 D) nb_X9_hearReplies (F + 2 * m + 1) 1 0 [vR 7, vR 40, vI ((r + g (7 + 3 + f 41 i) 2) % 4294967296), vI (i + 1), vI (f 41 i)] [] (vup g (7 + 17 + 3 * 6) (f 41 i) ((g (7 + 17 + 3 * 6) (f 41 i) + 1) % 4294967296)) := fun _ => by
      rcases (show i = 0 ∨ i = 1 ∨ i = 2 by omega) with q | q | q
      · subst q; exact hr2_7_6_0 he e1
      · subst q; exact hr2_7_6_1 he e1
      · subst q; exact hr2_7_6_2 he e1
    obtain ⟨r', i', y4, g', k1, k2⟩ := ih (i + 1) ((r + g (7 + 3 + f 41 i) 2) % 4294967296) F (vI (f 41 i)) (vup g (7 + 17 + 3 * 6) (f 41 i) ((g (7 + 17 + 3 * 6) (f 41 i) + 1) % 4294967296)) (by omega) (fun a b h => (vup_ne (Or.inl h)).trans (hg a b h))
    refine ⟨r', i', y4, g', ?_, k2⟩
    rw [show F + 2 * (m + 1) + 1 = F + 2 * m + 1 + 1 + 1 by omega]
    exact (hr1l_7_6 (by omega) (by omega)).trans ((hs 0).trans k1)
theorem hr_7_6 {D : Nat} {f : Vw} (hj : 6 < f 7 3) (h8 : f 7 3 ≤ 8) (h2 : f 7 2 ≤ 12) (h3 : f 40 6 ≤ 3) (hm : ∀ i, i < f 40 6 → f 41 i < 12) : ∃ g, vM MT0 (D + 1) 89 [vR 7, vR 40] f = some ((1, 0), vW 3, g) ∧ WkR 7 f g := by
  obtain ⟨F, hF, go⟩ := vM_at (D := D) (y := 89) (as := [vR 7, vR 40]) (f := f) rfl rfl rfl rfl
  obtain ⟨r', i', y4, g', k1, k2⟩ := hrL_7_6 (D := D) h3 hm (f 40 6) 0 0 (F + 57 - 2 * f 40 6 + 1) (vW 3) f (by omega) (fun _ _ _ => rfl)
  rw [show F + 57 - 2 * f 40 6 + 1 + 2 * f 40 6 + 1 = F + 59 by omega] at k1
  have e0 : vFn (vM MT0 D) nb_X9_hearReplies (F + 60) 0 0 (iniL 5 [vR 7, vR 40]) [] f = vFn (vM MT0 D) nb_X9_hearReplies (F + 59) 1 0 [vR 7, vR 40, vI 0, vI 0, vW 3] [] f := by
    refine (vF_g rfl rfl).trans ?_
    exact rfl
  exact ⟨_, go _ (e0.trans (k1.trans hr3_7_6)), hr_R hj h8 k2 h2⟩
theorem ps1l_7_6 {D F i : Nat} {x3 x4 : AV} {g : Vw} (h : i < g 40 6) (h3 : g 40 6 ≤ 3) : vFn (vM MT0 D) nb_X9_payStaff (F + 1) 1 0 [vR 7, vR 40, vI i, x3, x4] [] g = vFn (vM MT0 D) nb_X9_payStaff F 2 0 [vR 7, vR 40, vI i, x3, x4] [] g := by
  refine (vF_g rfl rfl).trans ?_
  refine (vlt (x := i) (y := g 40 6) (by omega) h).trans ?_
  exact rfl
theorem ps1g_7_6 {D F i : Nat} {x3 x4 : AV} {g : Vw} (h : g 40 6 ≤ i) (h3 : i ≤ 3) : vFn (vM MT0 D) nb_X9_payStaff (F + 2) 1 0 [vR 7, vR 40, vI i, x3, x4] [] g = some ((1, 0), vW 3, g) := by
  refine (vF_g rfl rfl).trans ?_
  refine (vge2 (x := i) (y := g 40 6) (by omega) h).trans ?_
  refine (vF_g rfl rfl).trans ?_
  exact rfl
theorem ps3_7_6 {D F i e p : Nat} {g : Vw} (he : e < 12) (hi : i < 3) : vFn (vM MT0 D) nb_X9_payStaff (F + 2) 3 0 [vR 7, vR 40, vI i, vR (7 + 3 + e), vI p] [] g = vFn (vM MT0 D) nb_X9_payStaff F 1 0 [vR 7, vR 40, vI (i + 1), vR (7 + 3 + e), vI p] [] (psE 40 (7 + 3 + e) p g) := by
  rcases (show i = 0 ∨ i = 1 ∨ i = 2 by omega) with q | q | q <;> subst q <;> rcases (show e = 0 ∨ e = 1 ∨ e = 2 ∨ e = 3 ∨ e = 4 ∨ e = 5 ∨ e = 6 ∨ e = 7 ∨ e = 8 ∨ e = 9 ∨ e = 10 ∨ e = 11 by omega) with rfl | rfl | rfl | rfl | rfl | rfl | rfl | rfl | rfl | rfl | rfl | rfl <;> (refine (vF_g rfl rfl).trans ?_; refine (vF_g rfl rfl).trans ?_; exact rfl)
theorem ps4_7_6 {D F i e p : Nat} {g : Vw} (he : e < 12) (hi : i < 3) : vFn (vM MT0 D) nb_X9_payStaff (F + 2) 4 0 [vR 7, vR 40, vI i, vR (7 + 3 + e), vI p] [] g = vFn (vM MT0 D) nb_X9_payStaff F 1 0 [vR 7, vR 40, vI (i + 1), vR (7 + 3 + e), vI p] [] (vup g (7 + 3 + e) 6 ((g (7 + 3 + e) 6 + 1) % 4294967296)) := by
  rcases (show i = 0 ∨ i = 1 ∨ i = 2 by omega) with q | q | q <;> subst q <;> rcases (show e = 0 ∨ e = 1 ∨ e = 2 ∨ e = 3 ∨ e = 4 ∨ e = 5 ∨ e = 6 ∨ e = 7 ∨ e = 8 ∨ e = 9 ∨ e = 10 ∨ e = 11 by omega) with rfl | rfl | rfl | rfl | rfl | rfl | rfl | rfl | rfl | rfl | rfl | rfl <;> (refine (vF_g rfl rfl).trans ?_; refine (vF_g rfl rfl).trans ?_; exact rfl)
theorem psL_7_6 {D : Nat} {f : Vw} (hj : 6 < f 7 3) (h8 : f 7 3 ≤ 8) (h2 : f 7 2 ≤ 12) (h3 : f 40 6 ≤ 3) (hm : ∀ i, i < f 40 6 → f 41 i < f 7 2) : ∀ (m i F : Nat) (x3 x4 : AV) (g : Vw), i + m = f 40 6 → WkR 7 f g → ∃ g' : Vw, vFn (vM MT0 D) nb_X9_payStaff (F + 4 * m + 2) 1 0 [vR 7, vR 40, vI i, x3, x4] [] g = some ((1, 0), vW 3, g') ∧ WkR 7 f g' := by
  intro m
  induction m with
  | zero =>
    intro i F x3 x4 g hi hg
    have e6 : g 40 6 = f 40 6 := hg.2 40 6 (Or.inr (Or.inr (Or.inr (Or.inr ⟨6, by decide, Or.inl ⟨by decide, by decide, by decide, by decide⟩⟩))))
    rw [show F + 4 * 0 + 2 = F + 2 by omega]
    exact ⟨g, ps1g_7_6 (by omega) (by omega), hg⟩
  | succ m ih =>
    intro i F x3 x4 g hi hg
    have e6 : g 40 6 = f 40 6 := hg.2 40 6 (Or.inr (Or.inr (Or.inr (Or.inr ⟨6, by decide, Or.inl ⟨by decide, by decide, by decide, by decide⟩⟩))))
    have e1 : g 41 i = f 41 i := hg.2 41 i (Or.inr (Or.inr (Or.inr (Or.inr ⟨6, by decide, Or.inr (by decide)⟩))))
    have e2 : g 7 2 = f 7 2 := hg.2 7 2 (Or.inr (Or.inr (Or.inl ⟨rfl, by decide⟩)))
    have e3 : g 7 3 = f 7 3 := hg.2 7 3 (Or.inr (Or.inr (Or.inl ⟨rfl, by decide⟩)))
    have he := hm i (by omega)
    have he9 : f 41 i < 12 := by omega
    have hi3 : i < 3 := by omega
    rw [show F + 4 * (m + 1) + 2 = F + 4 * m + 2 + 2 + 1 + 1 by omega]
    have hs : ∃ G : Vw, vFn (vM MT0 D) nb_X9_payStaff (F + 4 * m + 2 + 2 + 1) 2 0 [vR 7, vR 40, vI i, x3, x4] [] g = vFn (vM MT0 D) nb_X9_payStaff (F + 4 * m + 2) 1 0 [vR 7, vR 40, vI (i + 1), vR (7 + 3 + f 41 i), vI (g_imul (g 40 3) (g (7 + 3 + f 41 i) 2))] [] G ∧ WkR 7 g G := by
      have hc := (show vFn (vM MT0 D) nb_X9_payStaff (F + 4 * m + 2 + 2 + 1) 2 0 [vR 7, vR 40, vI i, x3, x4] [] g = vc3 (bv (g 40 4)) (bv (g_imul (g 40 3) (g (7 + 3 + f 41 i) 2))) (vFn (vM MT0 D) nb_X9_payStaff (F + 4 * m + 2 + 2) 4 0 [vR 7, vR 40, vI i, vR (7 + 3 + f 41 i), vI (g_imul (g 40 3) (g (7 + 3 + f 41 i) 2))] [] g) (vFn (vM MT0 D) nb_X9_payStaff (F + 4 * m + 2 + 2) 3 0 [vR 7, vR 40, vI i, vR (7 + 3 + f 41 i), vI (g_imul (g 40 3) (g (7 + 3 + f 41 i) 2))] [] g) (vFn (vM MT0 D) nb_X9_payStaff (F + 4 * m + 2 + 2) 3 0 [vR 7, vR 40, vI i, vR (7 + 3 + f 41 i), vI (g_imul (g 40 3) (g (7 + 3 + f 41 i) 2))] [] g) from by
        rcases (show i = 0 ∨ i = 1 ∨ i = 2 by omega) with q | q | q
        · subst q; exact ps2_7_6_0 he9 e1
        · subst q; exact ps2_7_6_1 he9 e1
        · subst q; exact ps2_7_6_2 he9 e1)
      rcases vc3_or (u := bv (g 40 4)) (w := bv (g_imul (g 40 3) (g (7 + 3 + f 41 i) 2))) (a := vFn (vM MT0 D) nb_X9_payStaff (F + 4 * m + 2 + 2) 4 0 [vR 7, vR 40, vI i, vR (7 + 3 + f 41 i), vI (g_imul (g 40 3) (g (7 + 3 + f 41 i) 2))] [] g) (b := vFn (vM MT0 D) nb_X9_payStaff (F + 4 * m + 2 + 2) 3 0 [vR 7, vR 40, vI i, vR (7 + 3 + f 41 i), vI (g_imul (g 40 3) (g (7 + 3 + f 41 i) 2))] [] g) with q | q
      · exact ⟨_, hc.trans (q.trans (ps4_7_6 he9 hi3)), un_R (j := 6) (by omega) (by omega) (by omega)⟩
      · exact ⟨_, hc.trans (q.trans (ps3_7_6 he9 hi3)), ps_R (j := 6) (by omega) (by omega) (by omega) (by omega)⟩
    obtain ⟨G, s1, s2⟩ := hs
    obtain ⟨g', k1, k2⟩ := ih (i + 1) F (vR (7 + 3 + f 41 i)) (vI (g_imul (g 40 3) (g (7 + 3 + f 41 i) 2))) G (by omega) (wkR_tr hg s2)
    exact ⟨g', (ps1l_7_6 (by omega) (by omega)).trans (s1.trans k1), k2⟩
theorem ps_7_6 {D : Nat} {f : Vw} (hj : 6 < f 7 3) (h8 : f 7 3 ≤ 8) (h2 : f 7 2 ≤ 12) (h3 : f 40 6 ≤ 3) (hm : ∀ i, i < f 40 6 → f 41 i < f 7 2) : ∃ g, vM MT0 (D + 1) 90 [vR 7, vR 40] f = some ((1, 0), vW 3, g) ∧ WkR 7 f g := by
  obtain ⟨F, hF, go⟩ := vM_at (D := D) (y := 90) (as := [vR 7, vR 40]) (f := f) rfl rfl rfl rfl
  obtain ⟨g', k1, k2⟩ := psL_7_6 (D := D) hj h8 h2 h3 hm (f 40 6) 0 (F + 57 - 4 * f 40 6) (vW 3) (vW 3) f (by omega) wkR_rf
  rw [show F + 57 - 4 * f 40 6 + 4 * f 40 6 + 2 = F + 59 by omega] at k1
  have e0 : vFn (vM MT0 D) nb_X9_payStaff (F + 60) 0 0 (iniL 5 [vR 7, vR 40]) [] f = vFn (vM MT0 D) nb_X9_payStaff (F + 59) 1 0 [vR 7, vR 40, vI 0, vW 3, vW 3] [] f := by
    refine (vF_g rfl rfl).trans ?_
    exact rfl
  exact ⟨g', go _ (e0.trans k1), k2⟩
theorem hr2_7_7_0 {D F e r : Nat} {x4 : AV} {g : Vw} (he : e < 12) (h : g 44 0 = e) : vFn (vM MT0 D) nb_X9_hearReplies (F + 1) 2 0 [vR 7, vR 43, vI r, vI 0, x4] [] g = vFn (vM MT0 D) nb_X9_hearReplies F 1 0 [vR 7, vR 43, vI ((r + g (7 + 3 + e) 2) % 4294967296), vI (0 + 1), vI e] [] (vup g (7 + 17 + 3 * 7) e ((g (7 + 17 + 3 * 7) e + 1) % 4294967296)) := by
  refine (vF_g rfl rfl).trans ?_
  refine Eq.trans (b := vB (vM MT0 D) (vFn (vM MT0 D) nb_X9_hearReplies F) hr2T hr2R 0 [vR 7, vR 43, vI r, vI 0, x4] [vI (g 44 0)] g) rfl ?_
  rw [h]
  clear h
  rcases (show e = 0 ∨ e = 1 ∨ e = 2 ∨ e = 3 ∨ e = 4 ∨ e = 5 ∨ e = 6 ∨ e = 7 ∨ e = 8 ∨ e = 9 ∨ e = 10 ∨ e = 11 by omega) with rfl | rfl | rfl | rfl | rfl | rfl | rfl | rfl | rfl | rfl | rfl | rfl <;> exact rfl
theorem ps2_7_7_0 {D F e : Nat} {x3 x4 : AV} {g : Vw} (he : e < 12) (h : g 44 0 = e) : vFn (vM MT0 D) nb_X9_payStaff (F + 1) 2 0 [vR 7, vR 43, vI 0, x3, x4] [] g = vc3 (bv (g 43 4)) (bv (g_imul (g 43 3) (g (7 + 3 + e) 2))) (vFn (vM MT0 D) nb_X9_payStaff F 4 0 [vR 7, vR 43, vI 0, vR (7 + 3 + e), vI (g_imul (g 43 3) (g (7 + 3 + e) 2))] [] g) (vFn (vM MT0 D) nb_X9_payStaff F 3 0 [vR 7, vR 43, vI 0, vR (7 + 3 + e), vI (g_imul (g 43 3) (g (7 + 3 + e) 2))] [] g) (vFn (vM MT0 D) nb_X9_payStaff F 3 0 [vR 7, vR 43, vI 0, vR (7 + 3 + e), vI (g_imul (g 43 3) (g (7 + 3 + e) 2))] [] g) := by
  refine (vF_g rfl rfl).trans ?_
  refine Eq.trans (b := vB (vM MT0 D) (vFn (vM MT0 D) nb_X9_payStaff F) ps2T ps2R 0 [vR 7, vR 43, vI 0, x3, x4] [vI (g 44 0), vR 8] g) rfl ?_
  rw [h]
  clear h
  rcases (show e = 0 ∨ e = 1 ∨ e = 2 ∨ e = 3 ∨ e = 4 ∨ e = 5 ∨ e = 6 ∨ e = 7 ∨ e = 8 ∨ e = 9 ∨ e = 10 ∨ e = 11 by omega) with rfl | rfl | rfl | rfl | rfl | rfl | rfl | rfl | rfl | rfl | rfl | rfl <;> exact rfl
theorem hr2_7_7_1 {D F e r : Nat} {x4 : AV} {g : Vw} (he : e < 12) (h : g 44 1 = e) : vFn (vM MT0 D) nb_X9_hearReplies (F + 1) 2 0 [vR 7, vR 43, vI r, vI 1, x4] [] g = vFn (vM MT0 D) nb_X9_hearReplies F 1 0 [vR 7, vR 43, vI ((r + g (7 + 3 + e) 2) % 4294967296), vI (1 + 1), vI e] [] (vup g (7 + 17 + 3 * 7) e ((g (7 + 17 + 3 * 7) e + 1) % 4294967296)) := by
  refine (vF_g rfl rfl).trans ?_
  refine Eq.trans (b := vB (vM MT0 D) (vFn (vM MT0 D) nb_X9_hearReplies F) hr2T hr2R 0 [vR 7, vR 43, vI r, vI 1, x4] [vI (g 44 1)] g) rfl ?_
  rw [h]
  clear h
  rcases (show e = 0 ∨ e = 1 ∨ e = 2 ∨ e = 3 ∨ e = 4 ∨ e = 5 ∨ e = 6 ∨ e = 7 ∨ e = 8 ∨ e = 9 ∨ e = 10 ∨ e = 11 by omega) with rfl | rfl | rfl | rfl | rfl | rfl | rfl | rfl | rfl | rfl | rfl | rfl <;> exact rfl
theorem ps2_7_7_1 {D F e : Nat} {x3 x4 : AV} {g : Vw} (he : e < 12) (h : g 44 1 = e) : vFn (vM MT0 D) nb_X9_payStaff (F + 1) 2 0 [vR 7, vR 43, vI 1, x3, x4] [] g = vc3 (bv (g 43 4)) (bv (g_imul (g 43 3) (g (7 + 3 + e) 2))) (vFn (vM MT0 D) nb_X9_payStaff F 4 0 [vR 7, vR 43, vI 1, vR (7 + 3 + e), vI (g_imul (g 43 3) (g (7 + 3 + e) 2))] [] g) (vFn (vM MT0 D) nb_X9_payStaff F 3 0 [vR 7, vR 43, vI 1, vR (7 + 3 + e), vI (g_imul (g 43 3) (g (7 + 3 + e) 2))] [] g) (vFn (vM MT0 D) nb_X9_payStaff F 3 0 [vR 7, vR 43, vI 1, vR (7 + 3 + e), vI (g_imul (g 43 3) (g (7 + 3 + e) 2))] [] g) := by
  refine (vF_g rfl rfl).trans ?_
  refine Eq.trans (b := vB (vM MT0 D) (vFn (vM MT0 D) nb_X9_payStaff F) ps2T ps2R 0 [vR 7, vR 43, vI 1, x3, x4] [vI (g 44 1), vR 8] g) rfl ?_
  rw [h]
  clear h
  rcases (show e = 0 ∨ e = 1 ∨ e = 2 ∨ e = 3 ∨ e = 4 ∨ e = 5 ∨ e = 6 ∨ e = 7 ∨ e = 8 ∨ e = 9 ∨ e = 10 ∨ e = 11 by omega) with rfl | rfl | rfl | rfl | rfl | rfl | rfl | rfl | rfl | rfl | rfl | rfl <;> exact rfl
theorem hr2_7_7_2 {D F e r : Nat} {x4 : AV} {g : Vw} (he : e < 12) (h : g 44 2 = e) : vFn (vM MT0 D) nb_X9_hearReplies (F + 1) 2 0 [vR 7, vR 43, vI r, vI 2, x4] [] g = vFn (vM MT0 D) nb_X9_hearReplies F 1 0 [vR 7, vR 43, vI ((r + g (7 + 3 + e) 2) % 4294967296), vI (2 + 1), vI e] [] (vup g (7 + 17 + 3 * 7) e ((g (7 + 17 + 3 * 7) e + 1) % 4294967296)) := by
  refine (vF_g rfl rfl).trans ?_
  refine Eq.trans (b := vB (vM MT0 D) (vFn (vM MT0 D) nb_X9_hearReplies F) hr2T hr2R 0 [vR 7, vR 43, vI r, vI 2, x4] [vI (g 44 2)] g) rfl ?_
  rw [h]
  clear h
  rcases (show e = 0 ∨ e = 1 ∨ e = 2 ∨ e = 3 ∨ e = 4 ∨ e = 5 ∨ e = 6 ∨ e = 7 ∨ e = 8 ∨ e = 9 ∨ e = 10 ∨ e = 11 by omega) with rfl | rfl | rfl | rfl | rfl | rfl | rfl | rfl | rfl | rfl | rfl | rfl <;> exact rfl
theorem ps2_7_7_2 {D F e : Nat} {x3 x4 : AV} {g : Vw} (he : e < 12) (h : g 44 2 = e) : vFn (vM MT0 D) nb_X9_payStaff (F + 1) 2 0 [vR 7, vR 43, vI 2, x3, x4] [] g = vc3 (bv (g 43 4)) (bv (g_imul (g 43 3) (g (7 + 3 + e) 2))) (vFn (vM MT0 D) nb_X9_payStaff F 4 0 [vR 7, vR 43, vI 2, vR (7 + 3 + e), vI (g_imul (g 43 3) (g (7 + 3 + e) 2))] [] g) (vFn (vM MT0 D) nb_X9_payStaff F 3 0 [vR 7, vR 43, vI 2, vR (7 + 3 + e), vI (g_imul (g 43 3) (g (7 + 3 + e) 2))] [] g) (vFn (vM MT0 D) nb_X9_payStaff F 3 0 [vR 7, vR 43, vI 2, vR (7 + 3 + e), vI (g_imul (g 43 3) (g (7 + 3 + e) 2))] [] g) := by
  refine (vF_g rfl rfl).trans ?_
  refine Eq.trans (b := vB (vM MT0 D) (vFn (vM MT0 D) nb_X9_payStaff F) ps2T ps2R 0 [vR 7, vR 43, vI 2, x3, x4] [vI (g 44 2), vR 8] g) rfl ?_
  rw [h]
  clear h
  rcases (show e = 0 ∨ e = 1 ∨ e = 2 ∨ e = 3 ∨ e = 4 ∨ e = 5 ∨ e = 6 ∨ e = 7 ∨ e = 8 ∨ e = 9 ∨ e = 10 ∨ e = 11 by omega) with rfl | rfl | rfl | rfl | rfl | rfl | rfl | rfl | rfl | rfl | rfl | rfl <;> exact rfl
theorem hr1l_7_7 {D F i r : Nat} {x4 : AV} {g : Vw} (h : i < g 43 6) (h3 : g 43 6 ≤ 3) : vFn (vM MT0 D) nb_X9_hearReplies (F + 1) 1 0 [vR 7, vR 43, vI r, vI i, x4] [] g = vFn (vM MT0 D) nb_X9_hearReplies F 2 0 [vR 7, vR 43, vI r, vI i, x4] [] g := by
  refine (vF_g rfl rfl).trans ?_
  refine (vlt (x := i) (y := g 43 6) (by omega) h).trans ?_
  exact rfl
theorem hr1g_7_7 {D F i r : Nat} {x4 : AV} {g : Vw} (h : g 43 6 ≤ i) (h3 : i ≤ 3) : vFn (vM MT0 D) nb_X9_hearReplies (F + 1) 1 0 [vR 7, vR 43, vI r, vI i, x4] [] g = vFn (vM MT0 D) nb_X9_hearReplies F 3 0 [vR 7, vR 43, vI r, vI i, x4] [] g := by
  refine (vF_g rfl rfl).trans ?_
  refine (vge2 (x := i) (y := g 43 6) (by omega) h).trans ?_
  exact rfl
theorem hr3_7_7 {D F r : Nat} {x3 x4 : AV} {g : Vw} : vFn (vM MT0 D) nb_X9_hearReplies (F + 1) 3 0 [vR 7, vR 43, vI r, x3, x4] [] g = some ((1, 0), vW 3, hrE 7 43 r g) := by
  refine (vF_g rfl rfl).trans ?_
  exact rfl
theorem hrL_7_7 {D : Nat} {f : Vw} (h3 : f 43 6 ≤ 3) (hm : ∀ i, i < f 43 6 → f 44 i < 12) : ∀ (m i r F : Nat) (x4 : AV) (g : Vw), i + m = f 43 6 → (∀ a b, a ≠ 7 + 17 + 3 * 7 → g a b = f a b) → ∃ (r' i' : Nat) (y4 : AV) (g' : Vw), vFn (vM MT0 D) nb_X9_hearReplies (F + 2 * m + 1) 1 0 [vR 7, vR 43, vI r, vI i, x4] [] g = vFn (vM MT0 D) nb_X9_hearReplies F 3 0 [vR 7, vR 43, vI r', vI i', y4] [] g' ∧ ∀ a b, a ≠ 7 + 17 + 3 * 7 → g' a b = f a b := by
  intro m
  induction m with
  | zero =>
    intro i r F x4 g hi hg
    have e6 := hg 43 6 (by decide)
    rw [show F + 2 * 0 + 1 = F + 1 by omega]
    exact ⟨r, i, x4, g, hr1g_7_7 (by omega) (by omega), hg⟩
  | succ m ih =>
    intro i r F x4 g hi hg
    have e6 := hg 43 6 (by decide)
    have e1 := hg 44 i (by decide)
    have he := hm i (by omega)
    have hs : ∀ r9 : Nat, vFn (vM MT0 D) nb_X9_hearReplies (F + 2 * m + 1 + 1) 2 0 [vR 7, vR 43, vI r, vI i, x4] [] g = vFn (vM MT0 D) nb_X9_hearReplies (F + 2 * m + 1) 1 0 [vR 7, vR 43, vI ((r + g (7 + 3 + f 44 i) 2) % 4294967296), vI (i + 1), vI (f 44 i)] [] (vup g (7 + 17 + 3 * 7) (f 44 i) ((g (7 + 17 + 3 * 7) (f 44 i) + 1) % 4294967296)) := fun _ => by
      rcases (show i = 0 ∨ i = 1 ∨ i = 2 by omega) with q | q | q
      · subst q; exact hr2_7_7_0 he e1
      · subst q; exact hr2_7_7_1 he e1
      · subst q; exact hr2_7_7_2 he e1
    obtain ⟨r', i', y4, g', k1, k2⟩ := ih (i + 1) ((r + g (7 + 3 + f 44 i) 2) % 4294967296) F (vI (f 44 i)) (vup g (7 + 17 + 3 * 7) (f 44 i) ((g (7 + 17 + 3 * 7) (f 44 i) + 1) % 4294967296)) (by omega) (fun a b h => (vup_ne (Or.inl h)).trans (hg a b h))
    refine ⟨r', i', y4, g', ?_, k2⟩
    rw [show F + 2 * (m + 1) + 1 = F + 2 * m + 1 + 1 + 1 by omega]
    exact (hr1l_7_7 (by omega) (by omega)).trans ((hs 0).trans k1)
theorem hr_7_7 {D : Nat} {f : Vw} (hj : 7 < f 7 3) (h8 : f 7 3 ≤ 8) (h2 : f 7 2 ≤ 12) (h3 : f 43 6 ≤ 3) (hm : ∀ i, i < f 43 6 → f 44 i < 12) : ∃ g, vM MT0 (D + 1) 89 [vR 7, vR 43] f = some ((1, 0), vW 3, g) ∧ WkR 7 f g := by
  obtain ⟨F, hF, go⟩ := vM_at (D := D) (y := 89) (as := [vR 7, vR 43]) (f := f) rfl rfl rfl rfl
  obtain ⟨r', i', y4, g', k1, k2⟩ := hrL_7_7 (D := D) h3 hm (f 43 6) 0 0 (F + 57 - 2 * f 43 6 + 1) (vW 3) f (by omega) (fun _ _ _ => rfl)
  rw [show F + 57 - 2 * f 43 6 + 1 + 2 * f 43 6 + 1 = F + 59 by omega] at k1
  have e0 : vFn (vM MT0 D) nb_X9_hearReplies (F + 60) 0 0 (iniL 5 [vR 7, vR 43]) [] f = vFn (vM MT0 D) nb_X9_hearReplies (F + 59) 1 0 [vR 7, vR 43, vI 0, vI 0, vW 3] [] f := by
    refine (vF_g rfl rfl).trans ?_
    exact rfl
  exact ⟨_, go _ (e0.trans (k1.trans hr3_7_7)), hr_R hj h8 k2 h2⟩
theorem ps1l_7_7 {D F i : Nat} {x3 x4 : AV} {g : Vw} (h : i < g 43 6) (h3 : g 43 6 ≤ 3) : vFn (vM MT0 D) nb_X9_payStaff (F + 1) 1 0 [vR 7, vR 43, vI i, x3, x4] [] g = vFn (vM MT0 D) nb_X9_payStaff F 2 0 [vR 7, vR 43, vI i, x3, x4] [] g := by
  refine (vF_g rfl rfl).trans ?_
  refine (vlt (x := i) (y := g 43 6) (by omega) h).trans ?_
  exact rfl
theorem ps1g_7_7 {D F i : Nat} {x3 x4 : AV} {g : Vw} (h : g 43 6 ≤ i) (h3 : i ≤ 3) : vFn (vM MT0 D) nb_X9_payStaff (F + 2) 1 0 [vR 7, vR 43, vI i, x3, x4] [] g = some ((1, 0), vW 3, g) := by
  refine (vF_g rfl rfl).trans ?_
  refine (vge2 (x := i) (y := g 43 6) (by omega) h).trans ?_
  refine (vF_g rfl rfl).trans ?_
  exact rfl
theorem ps3_7_7 {D F i e p : Nat} {g : Vw} (he : e < 12) (hi : i < 3) : vFn (vM MT0 D) nb_X9_payStaff (F + 2) 3 0 [vR 7, vR 43, vI i, vR (7 + 3 + e), vI p] [] g = vFn (vM MT0 D) nb_X9_payStaff F 1 0 [vR 7, vR 43, vI (i + 1), vR (7 + 3 + e), vI p] [] (psE 43 (7 + 3 + e) p g) := by
  rcases (show i = 0 ∨ i = 1 ∨ i = 2 by omega) with q | q | q <;> subst q <;> rcases (show e = 0 ∨ e = 1 ∨ e = 2 ∨ e = 3 ∨ e = 4 ∨ e = 5 ∨ e = 6 ∨ e = 7 ∨ e = 8 ∨ e = 9 ∨ e = 10 ∨ e = 11 by omega) with rfl | rfl | rfl | rfl | rfl | rfl | rfl | rfl | rfl | rfl | rfl | rfl <;> (refine (vF_g rfl rfl).trans ?_; refine (vF_g rfl rfl).trans ?_; exact rfl)
theorem ps4_7_7 {D F i e p : Nat} {g : Vw} (he : e < 12) (hi : i < 3) : vFn (vM MT0 D) nb_X9_payStaff (F + 2) 4 0 [vR 7, vR 43, vI i, vR (7 + 3 + e), vI p] [] g = vFn (vM MT0 D) nb_X9_payStaff F 1 0 [vR 7, vR 43, vI (i + 1), vR (7 + 3 + e), vI p] [] (vup g (7 + 3 + e) 6 ((g (7 + 3 + e) 6 + 1) % 4294967296)) := by
  rcases (show i = 0 ∨ i = 1 ∨ i = 2 by omega) with q | q | q <;> subst q <;> rcases (show e = 0 ∨ e = 1 ∨ e = 2 ∨ e = 3 ∨ e = 4 ∨ e = 5 ∨ e = 6 ∨ e = 7 ∨ e = 8 ∨ e = 9 ∨ e = 10 ∨ e = 11 by omega) with rfl | rfl | rfl | rfl | rfl | rfl | rfl | rfl | rfl | rfl | rfl | rfl <;> (refine (vF_g rfl rfl).trans ?_; refine (vF_g rfl rfl).trans ?_; exact rfl)
theorem psL_7_7 {D : Nat} {f : Vw} (hj : 7 < f 7 3) (h8 : f 7 3 ≤ 8) (h2 : f 7 2 ≤ 12) (h3 : f 43 6 ≤ 3) (hm : ∀ i, i < f 43 6 → f 44 i < f 7 2) : ∀ (m i F : Nat) (x3 x4 : AV) (g : Vw), i + m = f 43 6 → WkR 7 f g → ∃ g' : Vw, vFn (vM MT0 D) nb_X9_payStaff (F + 4 * m + 2) 1 0 [vR 7, vR 43, vI i, x3, x4] [] g = some ((1, 0), vW 3, g') ∧ WkR 7 f g' := by
  intro m
  induction m with
  | zero =>
    intro i F x3 x4 g hi hg
    have e6 : g 43 6 = f 43 6 := hg.2 43 6 (Or.inr (Or.inr (Or.inr (Or.inr ⟨7, by decide, Or.inl ⟨by decide, by decide, by decide, by decide⟩⟩))))
    rw [show F + 4 * 0 + 2 = F + 2 by omega]
    exact ⟨g, ps1g_7_7 (by omega) (by omega), hg⟩
  | succ m ih =>
    intro i F x3 x4 g hi hg
    have e6 : g 43 6 = f 43 6 := hg.2 43 6 (Or.inr (Or.inr (Or.inr (Or.inr ⟨7, by decide, Or.inl ⟨by decide, by decide, by decide, by decide⟩⟩))))
    have e1 : g 44 i = f 44 i := hg.2 44 i (Or.inr (Or.inr (Or.inr (Or.inr ⟨7, by decide, Or.inr (by decide)⟩))))
    have e2 : g 7 2 = f 7 2 := hg.2 7 2 (Or.inr (Or.inr (Or.inl ⟨rfl, by decide⟩)))
    have e3 : g 7 3 = f 7 3 := hg.2 7 3 (Or.inr (Or.inr (Or.inl ⟨rfl, by decide⟩)))
    have he := hm i (by omega)
    have he9 : f 44 i < 12 := by omega
    have hi3 : i < 3 := by omega
    rw [show F + 4 * (m + 1) + 2 = F + 4 * m + 2 + 2 + 1 + 1 by omega]
    have hs : ∃ G : Vw, vFn (vM MT0 D) nb_X9_payStaff (F + 4 * m + 2 + 2 + 1) 2 0 [vR 7, vR 43, vI i, x3, x4] [] g = vFn (vM MT0 D) nb_X9_payStaff (F + 4 * m + 2) 1 0 [vR 7, vR 43, vI (i + 1), vR (7 + 3 + f 44 i), vI (g_imul (g 43 3) (g (7 + 3 + f 44 i) 2))] [] G ∧ WkR 7 g G := by
      have hc := (show vFn (vM MT0 D) nb_X9_payStaff (F + 4 * m + 2 + 2 + 1) 2 0 [vR 7, vR 43, vI i, x3, x4] [] g = vc3 (bv (g 43 4)) (bv (g_imul (g 43 3) (g (7 + 3 + f 44 i) 2))) (vFn (vM MT0 D) nb_X9_payStaff (F + 4 * m + 2 + 2) 4 0 [vR 7, vR 43, vI i, vR (7 + 3 + f 44 i), vI (g_imul (g 43 3) (g (7 + 3 + f 44 i) 2))] [] g) (vFn (vM MT0 D) nb_X9_payStaff (F + 4 * m + 2 + 2) 3 0 [vR 7, vR 43, vI i, vR (7 + 3 + f 44 i), vI (g_imul (g 43 3) (g (7 + 3 + f 44 i) 2))] [] g) (vFn (vM MT0 D) nb_X9_payStaff (F + 4 * m + 2 + 2) 3 0 [vR 7, vR 43, vI i, vR (7 + 3 + f 44 i), vI (g_imul (g 43 3) (g (7 + 3 + f 44 i) 2))] [] g) from by
        rcases (show i = 0 ∨ i = 1 ∨ i = 2 by omega) with q | q | q
        · subst q; exact ps2_7_7_0 he9 e1
        · subst q; exact ps2_7_7_1 he9 e1
        · subst q; exact ps2_7_7_2 he9 e1)
      rcases vc3_or (u := bv (g 43 4)) (w := bv (g_imul (g 43 3) (g (7 + 3 + f 44 i) 2))) (a := vFn (vM MT0 D) nb_X9_payStaff (F + 4 * m + 2 + 2) 4 0 [vR 7, vR 43, vI i, vR (7 + 3 + f 44 i), vI (g_imul (g 43 3) (g (7 + 3 + f 44 i) 2))] [] g) (b := vFn (vM MT0 D) nb_X9_payStaff (F + 4 * m + 2 + 2) 3 0 [vR 7, vR 43, vI i, vR (7 + 3 + f 44 i), vI (g_imul (g 43 3) (g (7 + 3 + f 44 i) 2))] [] g) with q | q
      · exact ⟨_, hc.trans (q.trans (ps4_7_7 he9 hi3)), un_R (j := 7) (by omega) (by omega) (by omega)⟩
      · exact ⟨_, hc.trans (q.trans (ps3_7_7 he9 hi3)), ps_R (j := 7) (by omega) (by omega) (by omega) (by omega)⟩
    obtain ⟨G, s1, s2⟩ := hs
    obtain ⟨g', k1, k2⟩ := ih (i + 1) F (vR (7 + 3 + f 44 i)) (vI (g_imul (g 43 3) (g (7 + 3 + f 44 i) 2))) G (by omega) (wkR_tr hg s2)
    exact ⟨g', (ps1l_7_7 (by omega) (by omega)).trans (s1.trans k1), k2⟩
theorem ps_7_7 {D : Nat} {f : Vw} (hj : 7 < f 7 3) (h8 : f 7 3 ≤ 8) (h2 : f 7 2 ≤ 12) (h3 : f 43 6 ≤ 3) (hm : ∀ i, i < f 43 6 → f 44 i < f 7 2) : ∃ g, vM MT0 (D + 1) 90 [vR 7, vR 43] f = some ((1, 0), vW 3, g) ∧ WkR 7 f g := by
  obtain ⟨F, hF, go⟩ := vM_at (D := D) (y := 90) (as := [vR 7, vR 43]) (f := f) rfl rfl rfl rfl
  obtain ⟨g', k1, k2⟩ := psL_7_7 (D := D) hj h8 h2 h3 hm (f 43 6) 0 (F + 57 - 4 * f 43 6) (vW 3) (vW 3) f (by omega) wkR_rf
  rw [show F + 57 - 4 * f 43 6 + 4 * f 43 6 + 2 = F + 59 by omega] at k1
  have e0 : vFn (vM MT0 D) nb_X9_payStaff (F + 60) 0 0 (iniL 5 [vR 7, vR 43]) [] f = vFn (vM MT0 D) nb_X9_payStaff (F + 59) 1 0 [vR 7, vR 43, vI 0, vW 3, vW 3] [] f := by
    refine (vF_g rfl rfl).trans ?_
    exact rfl
  exact ⟨g', go _ (e0.trans k1), k2⟩
theorem wk1l_7 {D F v : Nat} {g : Vw} (h : v < g 7 3) (h8 : g 7 3 ≤ 8) : vFn (vM MT0 D) nb_X9_work (F + 1) 1 0 [vR 7, vI v] [] g = vFn (vM MT0 D) nb_X9_work F 2 0 [vR 7, vI v] [] g := by
  refine (vF_g rfl rfl).trans ?_
  refine (vlt (x := v) (y := g 7 3) (by omega) h).trans ?_
  exact rfl
theorem wk1g_7 {D F v : Nat} {g : Vw} (h : g 7 3 ≤ v) (h8 : v ≤ 8) : vFn (vM MT0 D) nb_X9_work (F + 2) 1 0 [vR 7, vI v] [] g = some ((1, 0), vW 3, g) := by
  refine (vF_g rfl rfl).trans ?_
  refine (vge2 (x := v) (y := g 7 3) (by omega) h).trans ?_
  refine (vF_g rfl rfl).trans ?_
  exact rfl
theorem wk2_7_0 {D F : Nat} {f : Vw} (hj : 0 < f 7 3) (h8 : f 7 3 ≤ 8) (h2 : f 7 2 ≤ 12) (h3 : f 22 6 ≤ 3) (hm : ∀ i, i < f 22 6 → f 23 i < f 7 2) : ∃ g, vFn (vM MT0 (D + 1)) nb_X9_work (F + 1) 2 0 [vR 7, vI 0] [] f = vFn (vM MT0 (D + 1)) nb_X9_work F 1 0 [vR 7, vI (0 + 1)] [] g ∧ WkR 7 f g := by
  obtain ⟨g, e, hg⟩ := hr_7_0 (D := D) hj h8 h2 h3 (fun i hi => by have := hm i hi; omega)
  have e6 : g 22 6 = f 22 6 := hg.2 22 6 (Or.inr (Or.inr (Or.inr (Or.inr ⟨0, by decide, Or.inl ⟨by decide, by decide, by decide, by decide⟩⟩))))
  have e1 : ∀ i, g 23 i = f 23 i := fun i => hg.2 23 i (Or.inr (Or.inr (Or.inr (Or.inr ⟨0, by decide, Or.inr (by decide)⟩))))
  have e2 : g 7 2 = f 7 2 := hg.2 7 2 (Or.inr (Or.inr (Or.inl ⟨rfl, by decide⟩)))
  have e3 : g 7 3 = f 7 3 := hg.2 7 3 (Or.inr (Or.inr (Or.inl ⟨rfl, by decide⟩)))
  obtain ⟨g', e', hg'⟩ := ps_7_0 (D := D) (f := g) (by omega) (by omega) (by omega) (by omega) (fun i hi => by rw [e1, e2]; exact hm i (by omega))
  refine ⟨g', ?_, wkR_tr hg hg'⟩
  refine (vF_g rfl rfl).trans ?_
  refine (vbnd_1 e).trans ?_
  refine (vbnd_1 e').trans ?_
  exact rfl
theorem wk2_7_1 {D F : Nat} {f : Vw} (hj : 1 < f 7 3) (h8 : f 7 3 ≤ 8) (h2 : f 7 2 ≤ 12) (h3 : f 25 6 ≤ 3) (hm : ∀ i, i < f 25 6 → f 26 i < f 7 2) : ∃ g, vFn (vM MT0 (D + 1)) nb_X9_work (F + 1) 2 0 [vR 7, vI 1] [] f = vFn (vM MT0 (D + 1)) nb_X9_work F 1 0 [vR 7, vI (1 + 1)] [] g ∧ WkR 7 f g := by
  obtain ⟨g, e, hg⟩ := hr_7_1 (D := D) hj h8 h2 h3 (fun i hi => by have := hm i hi; omega)
  have e6 : g 25 6 = f 25 6 := hg.2 25 6 (Or.inr (Or.inr (Or.inr (Or.inr ⟨1, by decide, Or.inl ⟨by decide, by decide, by decide, by decide⟩⟩))))
  have e1 : ∀ i, g 26 i = f 26 i := fun i => hg.2 26 i (Or.inr (Or.inr (Or.inr (Or.inr ⟨1, by decide, Or.inr (by decide)⟩))))
  have e2 : g 7 2 = f 7 2 := hg.2 7 2 (Or.inr (Or.inr (Or.inl ⟨rfl, by decide⟩)))
  have e3 : g 7 3 = f 7 3 := hg.2 7 3 (Or.inr (Or.inr (Or.inl ⟨rfl, by decide⟩)))
  obtain ⟨g', e', hg'⟩ := ps_7_1 (D := D) (f := g) (by omega) (by omega) (by omega) (by omega) (fun i hi => by rw [e1, e2]; exact hm i (by omega))
  refine ⟨g', ?_, wkR_tr hg hg'⟩
  refine (vF_g rfl rfl).trans ?_
  refine (vbnd_1 e).trans ?_
  refine (vbnd_1 e').trans ?_
  exact rfl
theorem wk2_7_2 {D F : Nat} {f : Vw} (hj : 2 < f 7 3) (h8 : f 7 3 ≤ 8) (h2 : f 7 2 ≤ 12) (h3 : f 28 6 ≤ 3) (hm : ∀ i, i < f 28 6 → f 29 i < f 7 2) : ∃ g, vFn (vM MT0 (D + 1)) nb_X9_work (F + 1) 2 0 [vR 7, vI 2] [] f = vFn (vM MT0 (D + 1)) nb_X9_work F 1 0 [vR 7, vI (2 + 1)] [] g ∧ WkR 7 f g := by
  obtain ⟨g, e, hg⟩ := hr_7_2 (D := D) hj h8 h2 h3 (fun i hi => by have := hm i hi; omega)
  have e6 : g 28 6 = f 28 6 := hg.2 28 6 (Or.inr (Or.inr (Or.inr (Or.inr ⟨2, by decide, Or.inl ⟨by decide, by decide, by decide, by decide⟩⟩))))
  have e1 : ∀ i, g 29 i = f 29 i := fun i => hg.2 29 i (Or.inr (Or.inr (Or.inr (Or.inr ⟨2, by decide, Or.inr (by decide)⟩))))
  have e2 : g 7 2 = f 7 2 := hg.2 7 2 (Or.inr (Or.inr (Or.inl ⟨rfl, by decide⟩)))
  have e3 : g 7 3 = f 7 3 := hg.2 7 3 (Or.inr (Or.inr (Or.inl ⟨rfl, by decide⟩)))
  obtain ⟨g', e', hg'⟩ := ps_7_2 (D := D) (f := g) (by omega) (by omega) (by omega) (by omega) (fun i hi => by rw [e1, e2]; exact hm i (by omega))
  refine ⟨g', ?_, wkR_tr hg hg'⟩
  refine (vF_g rfl rfl).trans ?_
  refine (vbnd_1 e).trans ?_
  refine (vbnd_1 e').trans ?_
  exact rfl
theorem wk2_7_3 {D F : Nat} {f : Vw} (hj : 3 < f 7 3) (h8 : f 7 3 ≤ 8) (h2 : f 7 2 ≤ 12) (h3 : f 31 6 ≤ 3) (hm : ∀ i, i < f 31 6 → f 32 i < f 7 2) : ∃ g, vFn (vM MT0 (D + 1)) nb_X9_work (F + 1) 2 0 [vR 7, vI 3] [] f = vFn (vM MT0 (D + 1)) nb_X9_work F 1 0 [vR 7, vI (3 + 1)] [] g ∧ WkR 7 f g := by
  obtain ⟨g, e, hg⟩ := hr_7_3 (D := D) hj h8 h2 h3 (fun i hi => by have := hm i hi; omega)
  have e6 : g 31 6 = f 31 6 := hg.2 31 6 (Or.inr (Or.inr (Or.inr (Or.inr ⟨3, by decide, Or.inl ⟨by decide, by decide, by decide, by decide⟩⟩))))
  have e1 : ∀ i, g 32 i = f 32 i := fun i => hg.2 32 i (Or.inr (Or.inr (Or.inr (Or.inr ⟨3, by decide, Or.inr (by decide)⟩))))
  have e2 : g 7 2 = f 7 2 := hg.2 7 2 (Or.inr (Or.inr (Or.inl ⟨rfl, by decide⟩)))
  have e3 : g 7 3 = f 7 3 := hg.2 7 3 (Or.inr (Or.inr (Or.inl ⟨rfl, by decide⟩)))
  obtain ⟨g', e', hg'⟩ := ps_7_3 (D := D) (f := g) (by omega) (by omega) (by omega) (by omega) (fun i hi => by rw [e1, e2]; exact hm i (by omega))
  refine ⟨g', ?_, wkR_tr hg hg'⟩
  refine (vF_g rfl rfl).trans ?_
  refine (vbnd_1 e).trans ?_
  refine (vbnd_1 e').trans ?_
  exact rfl
theorem wk2_7_4 {D F : Nat} {f : Vw} (hj : 4 < f 7 3) (h8 : f 7 3 ≤ 8) (h2 : f 7 2 ≤ 12) (h3 : f 34 6 ≤ 3) (hm : ∀ i, i < f 34 6 → f 35 i < f 7 2) : ∃ g, vFn (vM MT0 (D + 1)) nb_X9_work (F + 1) 2 0 [vR 7, vI 4] [] f = vFn (vM MT0 (D + 1)) nb_X9_work F 1 0 [vR 7, vI (4 + 1)] [] g ∧ WkR 7 f g := by
  obtain ⟨g, e, hg⟩ := hr_7_4 (D := D) hj h8 h2 h3 (fun i hi => by have := hm i hi; omega)
  have e6 : g 34 6 = f 34 6 := hg.2 34 6 (Or.inr (Or.inr (Or.inr (Or.inr ⟨4, by decide, Or.inl ⟨by decide, by decide, by decide, by decide⟩⟩))))
  have e1 : ∀ i, g 35 i = f 35 i := fun i => hg.2 35 i (Or.inr (Or.inr (Or.inr (Or.inr ⟨4, by decide, Or.inr (by decide)⟩))))
  have e2 : g 7 2 = f 7 2 := hg.2 7 2 (Or.inr (Or.inr (Or.inl ⟨rfl, by decide⟩)))
  have e3 : g 7 3 = f 7 3 := hg.2 7 3 (Or.inr (Or.inr (Or.inl ⟨rfl, by decide⟩)))
  obtain ⟨g', e', hg'⟩ := ps_7_4 (D := D) (f := g) (by omega) (by omega) (by omega) (by omega) (fun i hi => by rw [e1, e2]; exact hm i (by omega))
  refine ⟨g', ?_, wkR_tr hg hg'⟩
  refine (vF_g rfl rfl).trans ?_
  refine (vbnd_1 e).trans ?_
  refine (vbnd_1 e').trans ?_
  exact rfl
theorem wk2_7_5 {D F : Nat} {f : Vw} (hj : 5 < f 7 3) (h8 : f 7 3 ≤ 8) (h2 : f 7 2 ≤ 12) (h3 : f 37 6 ≤ 3) (hm : ∀ i, i < f 37 6 → f 38 i < f 7 2) : ∃ g, vFn (vM MT0 (D + 1)) nb_X9_work (F + 1) 2 0 [vR 7, vI 5] [] f = vFn (vM MT0 (D + 1)) nb_X9_work F 1 0 [vR 7, vI (5 + 1)] [] g ∧ WkR 7 f g := by
  obtain ⟨g, e, hg⟩ := hr_7_5 (D := D) hj h8 h2 h3 (fun i hi => by have := hm i hi; omega)
  have e6 : g 37 6 = f 37 6 := hg.2 37 6 (Or.inr (Or.inr (Or.inr (Or.inr ⟨5, by decide, Or.inl ⟨by decide, by decide, by decide, by decide⟩⟩))))
  have e1 : ∀ i, g 38 i = f 38 i := fun i => hg.2 38 i (Or.inr (Or.inr (Or.inr (Or.inr ⟨5, by decide, Or.inr (by decide)⟩))))
  have e2 : g 7 2 = f 7 2 := hg.2 7 2 (Or.inr (Or.inr (Or.inl ⟨rfl, by decide⟩)))
  have e3 : g 7 3 = f 7 3 := hg.2 7 3 (Or.inr (Or.inr (Or.inl ⟨rfl, by decide⟩)))
  obtain ⟨g', e', hg'⟩ := ps_7_5 (D := D) (f := g) (by omega) (by omega) (by omega) (by omega) (fun i hi => by rw [e1, e2]; exact hm i (by omega))
  refine ⟨g', ?_, wkR_tr hg hg'⟩
  refine (vF_g rfl rfl).trans ?_
  refine (vbnd_1 e).trans ?_
  refine (vbnd_1 e').trans ?_
  exact rfl
theorem wk2_7_6 {D F : Nat} {f : Vw} (hj : 6 < f 7 3) (h8 : f 7 3 ≤ 8) (h2 : f 7 2 ≤ 12) (h3 : f 40 6 ≤ 3) (hm : ∀ i, i < f 40 6 → f 41 i < f 7 2) : ∃ g, vFn (vM MT0 (D + 1)) nb_X9_work (F + 1) 2 0 [vR 7, vI 6] [] f = vFn (vM MT0 (D + 1)) nb_X9_work F 1 0 [vR 7, vI (6 + 1)] [] g ∧ WkR 7 f g := by
  obtain ⟨g, e, hg⟩ := hr_7_6 (D := D) hj h8 h2 h3 (fun i hi => by have := hm i hi; omega)
  have e6 : g 40 6 = f 40 6 := hg.2 40 6 (Or.inr (Or.inr (Or.inr (Or.inr ⟨6, by decide, Or.inl ⟨by decide, by decide, by decide, by decide⟩⟩))))
  have e1 : ∀ i, g 41 i = f 41 i := fun i => hg.2 41 i (Or.inr (Or.inr (Or.inr (Or.inr ⟨6, by decide, Or.inr (by decide)⟩))))
  have e2 : g 7 2 = f 7 2 := hg.2 7 2 (Or.inr (Or.inr (Or.inl ⟨rfl, by decide⟩)))
  have e3 : g 7 3 = f 7 3 := hg.2 7 3 (Or.inr (Or.inr (Or.inl ⟨rfl, by decide⟩)))
  obtain ⟨g', e', hg'⟩ := ps_7_6 (D := D) (f := g) (by omega) (by omega) (by omega) (by omega) (fun i hi => by rw [e1, e2]; exact hm i (by omega))
  refine ⟨g', ?_, wkR_tr hg hg'⟩
  refine (vF_g rfl rfl).trans ?_
  refine (vbnd_1 e).trans ?_
  refine (vbnd_1 e').trans ?_
  exact rfl
theorem wk2_7_7 {D F : Nat} {f : Vw} (hj : 7 < f 7 3) (h8 : f 7 3 ≤ 8) (h2 : f 7 2 ≤ 12) (h3 : f 43 6 ≤ 3) (hm : ∀ i, i < f 43 6 → f 44 i < f 7 2) : ∃ g, vFn (vM MT0 (D + 1)) nb_X9_work (F + 1) 2 0 [vR 7, vI 7] [] f = vFn (vM MT0 (D + 1)) nb_X9_work F 1 0 [vR 7, vI (7 + 1)] [] g ∧ WkR 7 f g := by
  obtain ⟨g, e, hg⟩ := hr_7_7 (D := D) hj h8 h2 h3 (fun i hi => by have := hm i hi; omega)
  have e6 : g 43 6 = f 43 6 := hg.2 43 6 (Or.inr (Or.inr (Or.inr (Or.inr ⟨7, by decide, Or.inl ⟨by decide, by decide, by decide, by decide⟩⟩))))
  have e1 : ∀ i, g 44 i = f 44 i := fun i => hg.2 44 i (Or.inr (Or.inr (Or.inr (Or.inr ⟨7, by decide, Or.inr (by decide)⟩))))
  have e2 : g 7 2 = f 7 2 := hg.2 7 2 (Or.inr (Or.inr (Or.inl ⟨rfl, by decide⟩)))
  have e3 : g 7 3 = f 7 3 := hg.2 7 3 (Or.inr (Or.inr (Or.inl ⟨rfl, by decide⟩)))
  obtain ⟨g', e', hg'⟩ := ps_7_7 (D := D) (f := g) (by omega) (by omega) (by omega) (by omega) (fun i hi => by rw [e1, e2]; exact hm i (by omega))
  refine ⟨g', ?_, wkR_tr hg hg'⟩
  refine (vF_g rfl rfl).trans ?_
  refine (vbnd_1 e).trans ?_
  refine (vbnd_1 e').trans ?_
  exact rfl
def StfW (f : Vw) (A : Nat) : Prop := ∀ v, v < f A 3 → f (A + 15 + 3 * v) 6 ≤ 3 ∧ ∀ i, i < f (A + 15 + 3 * v) 6 → f (A + 16 + 3 * v) i < f A 2
theorem stfW_fr {f g : Vw} {A : Nat} (h8 : f A 3 ≤ 8) (h : FrW A f g) (hs : StfW f A) : StfW g A := by
  have e2 : g A 2 = f A 2 := h A 2 (Or.inr (Or.inr (Or.inl ⟨rfl, by decide⟩)))
  have e3 : g A 3 = f A 3 := h A 3 (Or.inr (Or.inr (Or.inl ⟨rfl, by decide⟩)))
  intro v hv
  rw [e3] at hv
  have e6 : g (A + 15 + 3 * v) 6 = f (A + 15 + 3 * v) 6 := h _ _ (Or.inr (Or.inr (Or.inr (Or.inr ⟨v, by omega, Or.inl ⟨rfl, by decide, by decide, by decide⟩⟩))))
  rw [e6, e2]
  refine ⟨(hs v hv).1, fun i hi => ?_⟩
  rw [h (A + 16 + 3 * v) i (Or.inr (Or.inr (Or.inr (Or.inr ⟨v, by omega, Or.inr rfl⟩))))]
  exact (hs v hv).2 i hi
theorem wkL_7 {D : Nat} {f : Vw} (h8 : f 7 3 ≤ 8) (h2 : f 7 2 ≤ 12) (hs : StfW f 7) : ∀ (m v F : Nat) (g : Vw), v + m = f 7 3 → WkR 7 f g → ∃ g', vFn (vM MT0 (D + 1)) nb_X9_work (F + 2 * m + 2) 1 0 [vR 7, vI v] [] g = some ((1, 0), vW 3, g') ∧ WkR 7 f g' := by
  intro m
  induction m with
  | zero =>
    intro v F g hv hg
    have e3 : g 7 3 = f 7 3 := hg.2 7 3 (Or.inr (Or.inr (Or.inl ⟨rfl, by decide⟩)))
    rw [show F + 2 * 0 + 2 = F + 2 by omega]
    exact ⟨g, wk1g_7 (by omega) (by omega), hg⟩
  | succ m ih =>
    intro v F g hv hg
    have e2 : g 7 2 = f 7 2 := hg.2 7 2 (Or.inr (Or.inr (Or.inl ⟨rfl, by decide⟩)))
    have e3 : g 7 3 = f 7 3 := hg.2 7 3 (Or.inr (Or.inr (Or.inl ⟨rfl, by decide⟩)))
    have sg9 := stfW_fr h8 hg.2 hs
    have st : ∃ G, vFn (vM MT0 (D + 1)) nb_X9_work (F + 2 * m + 2 + 1) 2 0 [vR 7, vI v] [] g = vFn (vM MT0 (D + 1)) nb_X9_work (F + 2 * m + 2) 1 0 [vR 7, vI (v + 1)] [] G ∧ WkR 7 g G := by
      obtain ⟨q1, q2⟩ := sg9 v (by omega)
      rcases (show v = 0 ∨ v = 1 ∨ v = 2 ∨ v = 3 ∨ v = 4 ∨ v = 5 ∨ v = 6 ∨ v = 7 by omega) with q | q | q | q | q | q | q | q
      · subst q; exact wk2_7_0 (by omega) (by omega) (by omega) q1 q2
      · subst q; exact wk2_7_1 (by omega) (by omega) (by omega) q1 q2
      · subst q; exact wk2_7_2 (by omega) (by omega) (by omega) q1 q2
      · subst q; exact wk2_7_3 (by omega) (by omega) (by omega) q1 q2
      · subst q; exact wk2_7_4 (by omega) (by omega) (by omega) q1 q2
      · subst q; exact wk2_7_5 (by omega) (by omega) (by omega) q1 q2
      · subst q; exact wk2_7_6 (by omega) (by omega) (by omega) q1 q2
      · subst q; exact wk2_7_7 (by omega) (by omega) (by omega) q1 q2
    obtain ⟨G, s1, s2⟩ := st
    obtain ⟨g', k1, k2⟩ := ih (v + 1) F G (by omega) (wkR_tr hg s2)
    refine ⟨g', ?_, k2⟩
    rw [show F + 2 * (m + 1) + 2 = F + 2 * m + 2 + 1 + 1 by omega]
    exact (wk1l_7 (by omega) (by omega)).trans (s1.trans k1)
theorem v_work_7 {D : Nat} {f : Vw} (h8 : f 7 3 ≤ 8) (h2 : f 7 2 ≤ 12) (hs : StfW f 7) : ∃ g, vM MT0 (D + 2) 88 [vR 7] f = some ((1, 0), vW 3, g) ∧ WkR 7 f g := by
  obtain ⟨F, hF, go⟩ := vM_at (D := D + 1) (y := 88) (as := [vR 7]) (f := f) rfl rfl rfl rfl
  obtain ⟨g', k1, k2⟩ := wkL_7 (D := D) h8 h2 hs (f 7 3) 0 (F + 57 - 2 * f 7 3) f (by omega) wkR_rf
  rw [show F + 57 - 2 * f 7 3 + 2 * f 7 3 + 2 = F + 59 by omega] at k1
  have e0 : vFn (vM MT0 (D + 1)) nb_X9_work (F + 60) 0 0 (iniL 2 [vR 7]) [] f = vFn (vM MT0 (D + 1)) nb_X9_work (F + 59) 1 0 [vR 7, vI 0] [] f := by
    refine (vF_g rfl rfl).trans ?_
    exact rfl
  exact ⟨g', go _ (e0.trans k1), k2⟩
