/-! a day of work in the draft, on views -/
theorem frW_tr {A : Nat} {f g h : Vw} (a : FrW A f g) (b : FrW A g h) : FrW A f h := fun x y w => (b x y w).trans (a x y w)
theorem frW_rf {A : Nat} {f : Vw} : FrW A f f := fun _ _ _ => rfl
theorem hr_F {A j r : Nat} {f g : Vw} (hj : j < f A 3) (h8 : f A 3 ≤ 8) (hg : ∀ a b, a ≠ A + 17 + 3 * j → g a b = f a b) : FrW A f (hrE A (A + 15 + 3 * j) r g) := fun a b h => (hrE_o (by rcases h with h | h | h | h | ⟨v, hv, h | h⟩ <;> omega) (by rcases h with h | h | h | h | ⟨v, hv, h | h⟩ <;> omega)).trans (hg a b (by rcases h with h | h | h | h | ⟨v, hv, h | h⟩ <;> omega))
theorem ps_F {A j e p : Nat} {g : Vw} (hj : j < g A 3) (h8 : g A 3 ≤ 8) (he : e < 12) (_h2 : g A 2 ≤ 12) : FrW A g (psE (A + 15 + 3 * j) (A + 3 + e) p g) := fun a b h => psE_o (by rcases h with h | h | h | h | ⟨v, hv, h | h⟩ <;> omega) (by rcases h with h | h | h | h | ⟨v, hv, h | h⟩ <;> omega)
theorem un_F {A j e x : Nat} {g : Vw} (_h2 : g A 2 ≤ 12) (he : e < 12) (_h8 : g A 3 ≤ 8) : FrW A g (vup g (A + 3 + e) 6 x) := fun a b h => vup_ne (by rcases h with h | h | h | h | ⟨v, hv, h | h⟩ <;> omega)
def StfD (f : Vw) (A : Nat) : Prop := ∀ v, v < f A 3 → f (A + 15 + 3 * v) 6 ≤ 3 ∧ ∀ i, i < f (A + 15 + 3 * v) 6 → f (A + 16 + 3 * v) i < 12
theorem stfD_fr {f g : Vw} {A : Nat} (h8 : f A 3 ≤ 8) (h : FrW A f g) (hs : StfD f A) : StfD g A := by
  have e3 : g A 3 = f A 3 := h A 3 (Or.inr (Or.inr (Or.inl ⟨rfl, by decide⟩)))
  intro v hv
  rw [e3] at hv
  have e6 : g (A + 15 + 3 * v) 6 = f (A + 15 + 3 * v) 6 := h _ _ (Or.inr (Or.inr (Or.inr (Or.inr ⟨v, by omega, Or.inl ⟨rfl, by decide, by decide, by decide⟩⟩))))
  rw [e6]
  refine ⟨(hs v hv).1, fun i hi => ?_⟩
  rw [h (A + 16 + 3 * v) i (Or.inr (Or.inr (Or.inr (Or.inr ⟨v, by omega, Or.inr rfl⟩))))]
  exact (hs v hv).2 i hi
theorem hr2_46_0_0 {D F e r : Nat} {x4 : AV} {g : Vw} (he : e < 12) (h : g 62 0 = e) : vFn (vM MT0 D) nb_X9_hearReplies (F + 1) 2 0 [vR 46, vR 61, vI r, vI 0, x4] [] g = vFn (vM MT0 D) nb_X9_hearReplies F 1 0 [vR 46, vR 61, vI ((r + g (46 + 3 + e) 2) % 4294967296), vI (0 + 1), vI e] [] (vup g (46 + 17 + 3 * 0) e ((g (46 + 17 + 3 * 0) e + 1) % 4294967296)) := by
  refine (vF_g rfl rfl).trans ?_
  refine Eq.trans (b := vB (vM MT0 D) (vFn (vM MT0 D) nb_X9_hearReplies F) hr2T hr2R 0 [vR 46, vR 61, vI r, vI 0, x4] [vI (g 62 0)] g) rfl ?_
  rw [h]
  clear h
  rcases (show e = 0 ∨ e = 1 ∨ e = 2 ∨ e = 3 ∨ e = 4 ∨ e = 5 ∨ e = 6 ∨ e = 7 ∨ e = 8 ∨ e = 9 ∨ e = 10 ∨ e = 11 by omega) with rfl | rfl | rfl | rfl | rfl | rfl | rfl | rfl | rfl | rfl | rfl | rfl <;> exact rfl
theorem ps2_46_0_0 {D F e : Nat} {x3 x4 : AV} {g : Vw} (he : e < 12) (h : g 62 0 = e) : vFn (vM MT0 D) nb_X9_payStaff (F + 1) 2 0 [vR 46, vR 61, vI 0, x3, x4] [] g = vc3 (bv (g 61 4)) (bv (g_imul (g 61 3) (g (46 + 3 + e) 2))) (vFn (vM MT0 D) nb_X9_payStaff F 4 0 [vR 46, vR 61, vI 0, vR (46 + 3 + e), vI (g_imul (g 61 3) (g (46 + 3 + e) 2))] [] g) (vFn (vM MT0 D) nb_X9_payStaff F 3 0 [vR 46, vR 61, vI 0, vR (46 + 3 + e), vI (g_imul (g 61 3) (g (46 + 3 + e) 2))] [] g) (vFn (vM MT0 D) nb_X9_payStaff F 3 0 [vR 46, vR 61, vI 0, vR (46 + 3 + e), vI (g_imul (g 61 3) (g (46 + 3 + e) 2))] [] g) := by
  refine (vF_g rfl rfl).trans ?_
  refine Eq.trans (b := vB (vM MT0 D) (vFn (vM MT0 D) nb_X9_payStaff F) ps2T ps2R 0 [vR 46, vR 61, vI 0, x3, x4] [vI (g 62 0), vR 47] g) rfl ?_
  rw [h]
  clear h
  rcases (show e = 0 ∨ e = 1 ∨ e = 2 ∨ e = 3 ∨ e = 4 ∨ e = 5 ∨ e = 6 ∨ e = 7 ∨ e = 8 ∨ e = 9 ∨ e = 10 ∨ e = 11 by omega) with rfl | rfl | rfl | rfl | rfl | rfl | rfl | rfl | rfl | rfl | rfl | rfl <;> exact rfl
theorem hr2_46_0_1 {D F e r : Nat} {x4 : AV} {g : Vw} (he : e < 12) (h : g 62 1 = e) : vFn (vM MT0 D) nb_X9_hearReplies (F + 1) 2 0 [vR 46, vR 61, vI r, vI 1, x4] [] g = vFn (vM MT0 D) nb_X9_hearReplies F 1 0 [vR 46, vR 61, vI ((r + g (46 + 3 + e) 2) % 4294967296), vI (1 + 1), vI e] [] (vup g (46 + 17 + 3 * 0) e ((g (46 + 17 + 3 * 0) e + 1) % 4294967296)) := by
  refine (vF_g rfl rfl).trans ?_
  refine Eq.trans (b := vB (vM MT0 D) (vFn (vM MT0 D) nb_X9_hearReplies F) hr2T hr2R 0 [vR 46, vR 61, vI r, vI 1, x4] [vI (g 62 1)] g) rfl ?_
  rw [h]
  clear h
  rcases (show e = 0 ∨ e = 1 ∨ e = 2 ∨ e = 3 ∨ e = 4 ∨ e = 5 ∨ e = 6 ∨ e = 7 ∨ e = 8 ∨ e = 9 ∨ e = 10 ∨ e = 11 by omega) with rfl | rfl | rfl | rfl | rfl | rfl | rfl | rfl | rfl | rfl | rfl | rfl <;> exact rfl
theorem ps2_46_0_1 {D F e : Nat} {x3 x4 : AV} {g : Vw} (he : e < 12) (h : g 62 1 = e) : vFn (vM MT0 D) nb_X9_payStaff (F + 1) 2 0 [vR 46, vR 61, vI 1, x3, x4] [] g = vc3 (bv (g 61 4)) (bv (g_imul (g 61 3) (g (46 + 3 + e) 2))) (vFn (vM MT0 D) nb_X9_payStaff F 4 0 [vR 46, vR 61, vI 1, vR (46 + 3 + e), vI (g_imul (g 61 3) (g (46 + 3 + e) 2))] [] g) (vFn (vM MT0 D) nb_X9_payStaff F 3 0 [vR 46, vR 61, vI 1, vR (46 + 3 + e), vI (g_imul (g 61 3) (g (46 + 3 + e) 2))] [] g) (vFn (vM MT0 D) nb_X9_payStaff F 3 0 [vR 46, vR 61, vI 1, vR (46 + 3 + e), vI (g_imul (g 61 3) (g (46 + 3 + e) 2))] [] g) := by
  refine (vF_g rfl rfl).trans ?_
  refine Eq.trans (b := vB (vM MT0 D) (vFn (vM MT0 D) nb_X9_payStaff F) ps2T ps2R 0 [vR 46, vR 61, vI 1, x3, x4] [vI (g 62 1), vR 47] g) rfl ?_
  rw [h]
  clear h
  rcases (show e = 0 ∨ e = 1 ∨ e = 2 ∨ e = 3 ∨ e = 4 ∨ e = 5 ∨ e = 6 ∨ e = 7 ∨ e = 8 ∨ e = 9 ∨ e = 10 ∨ e = 11 by omega) with rfl | rfl | rfl | rfl | rfl | rfl | rfl | rfl | rfl | rfl | rfl | rfl <;> exact rfl
theorem hr2_46_0_2 {D F e r : Nat} {x4 : AV} {g : Vw} (he : e < 12) (h : g 62 2 = e) : vFn (vM MT0 D) nb_X9_hearReplies (F + 1) 2 0 [vR 46, vR 61, vI r, vI 2, x4] [] g = vFn (vM MT0 D) nb_X9_hearReplies F 1 0 [vR 46, vR 61, vI ((r + g (46 + 3 + e) 2) % 4294967296), vI (2 + 1), vI e] [] (vup g (46 + 17 + 3 * 0) e ((g (46 + 17 + 3 * 0) e + 1) % 4294967296)) := by
  refine (vF_g rfl rfl).trans ?_
  refine Eq.trans (b := vB (vM MT0 D) (vFn (vM MT0 D) nb_X9_hearReplies F) hr2T hr2R 0 [vR 46, vR 61, vI r, vI 2, x4] [vI (g 62 2)] g) rfl ?_
  rw [h]
  clear h
  rcases (show e = 0 ∨ e = 1 ∨ e = 2 ∨ e = 3 ∨ e = 4 ∨ e = 5 ∨ e = 6 ∨ e = 7 ∨ e = 8 ∨ e = 9 ∨ e = 10 ∨ e = 11 by omega) with rfl | rfl | rfl | rfl | rfl | rfl | rfl | rfl | rfl | rfl | rfl | rfl <;> exact rfl
theorem ps2_46_0_2 {D F e : Nat} {x3 x4 : AV} {g : Vw} (he : e < 12) (h : g 62 2 = e) : vFn (vM MT0 D) nb_X9_payStaff (F + 1) 2 0 [vR 46, vR 61, vI 2, x3, x4] [] g = vc3 (bv (g 61 4)) (bv (g_imul (g 61 3) (g (46 + 3 + e) 2))) (vFn (vM MT0 D) nb_X9_payStaff F 4 0 [vR 46, vR 61, vI 2, vR (46 + 3 + e), vI (g_imul (g 61 3) (g (46 + 3 + e) 2))] [] g) (vFn (vM MT0 D) nb_X9_payStaff F 3 0 [vR 46, vR 61, vI 2, vR (46 + 3 + e), vI (g_imul (g 61 3) (g (46 + 3 + e) 2))] [] g) (vFn (vM MT0 D) nb_X9_payStaff F 3 0 [vR 46, vR 61, vI 2, vR (46 + 3 + e), vI (g_imul (g 61 3) (g (46 + 3 + e) 2))] [] g) := by
  refine (vF_g rfl rfl).trans ?_
  refine Eq.trans (b := vB (vM MT0 D) (vFn (vM MT0 D) nb_X9_payStaff F) ps2T ps2R 0 [vR 46, vR 61, vI 2, x3, x4] [vI (g 62 2), vR 47] g) rfl ?_
  rw [h]
  clear h
  rcases (show e = 0 ∨ e = 1 ∨ e = 2 ∨ e = 3 ∨ e = 4 ∨ e = 5 ∨ e = 6 ∨ e = 7 ∨ e = 8 ∨ e = 9 ∨ e = 10 ∨ e = 11 by omega) with rfl | rfl | rfl | rfl | rfl | rfl | rfl | rfl | rfl | rfl | rfl | rfl <;> exact rfl
theorem hr1l_46_0 {D F i r : Nat} {x4 : AV} {g : Vw} (h : i < g 61 6) (h3 : g 61 6 ≤ 3) : vFn (vM MT0 D) nb_X9_hearReplies (F + 1) 1 0 [vR 46, vR 61, vI r, vI i, x4] [] g = vFn (vM MT0 D) nb_X9_hearReplies F 2 0 [vR 46, vR 61, vI r, vI i, x4] [] g := by
  refine (vF_g rfl rfl).trans ?_
  refine (vlt (x := i) (y := g 61 6) (by omega) h).trans ?_
  exact rfl
theorem hr1g_46_0 {D F i r : Nat} {x4 : AV} {g : Vw} (h : g 61 6 ≤ i) (h3 : i ≤ 3) : vFn (vM MT0 D) nb_X9_hearReplies (F + 1) 1 0 [vR 46, vR 61, vI r, vI i, x4] [] g = vFn (vM MT0 D) nb_X9_hearReplies F 3 0 [vR 46, vR 61, vI r, vI i, x4] [] g := by
  refine (vF_g rfl rfl).trans ?_
  refine (vge2 (x := i) (y := g 61 6) (by omega) h).trans ?_
  exact rfl
theorem hr3_46_0 {D F r : Nat} {x3 x4 : AV} {g : Vw} : vFn (vM MT0 D) nb_X9_hearReplies (F + 1) 3 0 [vR 46, vR 61, vI r, x3, x4] [] g = some ((1, 0), vW 3, hrE 46 61 r g) := by
  refine (vF_g rfl rfl).trans ?_
  exact rfl
theorem hrL_46_0 {D : Nat} {f : Vw} (h3 : f 61 6 ≤ 3) (hm : ∀ i, i < f 61 6 → f 62 i < 12) : ∀ (m i r F : Nat) (x4 : AV) (g : Vw), i + m = f 61 6 → (∀ a b, a ≠ 46 + 17 + 3 * 0 → g a b = f a b) → ∃ (r' i' : Nat) (y4 : AV) (g' : Vw), vFn (vM MT0 D) nb_X9_hearReplies (F + 2 * m + 1) 1 0 [vR 46, vR 61, vI r, vI i, x4] [] g = vFn (vM MT0 D) nb_X9_hearReplies F 3 0 [vR 46, vR 61, vI r', vI i', y4] [] g' ∧ ∀ a b, a ≠ 46 + 17 + 3 * 0 → g' a b = f a b := by
  intro m
  induction m with
  | zero =>
    intro i r F x4 g hi hg
    have e6 := hg 61 6 (by decide)
    rw [show F + 2 * 0 + 1 = F + 1 by omega]
    exact ⟨r, i, x4, g, hr1g_46_0 (by omega) (by omega), hg⟩
  | succ m ih =>
    intro i r F x4 g hi hg
    have e6 := hg 61 6 (by decide)
    have e1 := hg 62 i (by decide)
    have he := hm i (by omega)
    have hs : ∀ r9 : Nat, vFn (vM MT0 D) nb_X9_hearReplies (F + 2 * m + 1 + 1) 2 0 [vR 46, vR 61, vI r, vI i, x4] [] g = vFn (vM MT0 D) nb_X9_hearReplies (F + 2 * m + 1) 1 0 [vR 46, vR 61, vI ((r + g (46 + 3 + f 62 i) 2) % 4294967296), vI (i + 1), vI (f 62 i)] [] (vup g (46 + 17 + 3 * 0) (f 62 i) ((g (46 + 17 + 3 * 0) (f 62 i) + 1) % 4294967296)) := fun _ => by
      rcases (show i = 0 ∨ i = 1 ∨ i = 2 by omega) with q | q | q
      · subst q; exact hr2_46_0_0 he e1
      · subst q; exact hr2_46_0_1 he e1
      · subst q; exact hr2_46_0_2 he e1
    obtain ⟨r', i', y4, g', k1, k2⟩ := ih (i + 1) ((r + g (46 + 3 + f 62 i) 2) % 4294967296) F (vI (f 62 i)) (vup g (46 + 17 + 3 * 0) (f 62 i) ((g (46 + 17 + 3 * 0) (f 62 i) + 1) % 4294967296)) (by omega) (fun a b h => (vup_ne (Or.inl h)).trans (hg a b h))
    refine ⟨r', i', y4, g', ?_, k2⟩
    rw [show F + 2 * (m + 1) + 1 = F + 2 * m + 1 + 1 + 1 by omega]
    exact (hr1l_46_0 (by omega) (by omega)).trans ((hs 0).trans k1)
theorem hr_46_0 {D : Nat} {f : Vw} (hj : 0 < f 46 3) (h8 : f 46 3 ≤ 8) (h2 : f 46 2 ≤ 12) (h3 : f 61 6 ≤ 3) (hm : ∀ i, i < f 61 6 → f 62 i < 12) : ∃ g, vM MT0 (D + 1) 89 [vR 46, vR 61] f = some ((1, 0), vW 3, g) ∧ FrW 46 f g := by
  obtain ⟨F, hF, go⟩ := vM_at (D := D) (y := 89) (as := [vR 46, vR 61]) (f := f) rfl rfl rfl rfl
  obtain ⟨r', i', y4, g', k1, k2⟩ := hrL_46_0 (D := D) h3 hm (f 61 6) 0 0 (F + 57 - 2 * f 61 6 + 1) (vW 3) f (by omega) (fun _ _ _ => rfl)
  rw [show F + 57 - 2 * f 61 6 + 1 + 2 * f 61 6 + 1 = F + 59 by omega] at k1
  have e0 : vFn (vM MT0 D) nb_X9_hearReplies (F + 60) 0 0 (iniL 5 [vR 46, vR 61]) [] f = vFn (vM MT0 D) nb_X9_hearReplies (F + 59) 1 0 [vR 46, vR 61, vI 0, vI 0, vW 3] [] f := by
    refine (vF_g rfl rfl).trans ?_
    exact rfl
  exact ⟨_, go _ (e0.trans (k1.trans hr3_46_0)), hr_F hj h8 k2⟩
theorem ps1l_46_0 {D F i : Nat} {x3 x4 : AV} {g : Vw} (h : i < g 61 6) (h3 : g 61 6 ≤ 3) : vFn (vM MT0 D) nb_X9_payStaff (F + 1) 1 0 [vR 46, vR 61, vI i, x3, x4] [] g = vFn (vM MT0 D) nb_X9_payStaff F 2 0 [vR 46, vR 61, vI i, x3, x4] [] g := by
  refine (vF_g rfl rfl).trans ?_
  refine (vlt (x := i) (y := g 61 6) (by omega) h).trans ?_
  exact rfl
theorem ps1g_46_0 {D F i : Nat} {x3 x4 : AV} {g : Vw} (h : g 61 6 ≤ i) (h3 : i ≤ 3) : vFn (vM MT0 D) nb_X9_payStaff (F + 2) 1 0 [vR 46, vR 61, vI i, x3, x4] [] g = some ((1, 0), vW 3, g) := by
  refine (vF_g rfl rfl).trans ?_
  refine (vge2 (x := i) (y := g 61 6) (by omega) h).trans ?_
  refine (vF_g rfl rfl).trans ?_
  exact rfl
theorem ps3_46_0 {D F i e p : Nat} {g : Vw} (he : e < 12) (hi : i < 3) : vFn (vM MT0 D) nb_X9_payStaff (F + 2) 3 0 [vR 46, vR 61, vI i, vR (46 + 3 + e), vI p] [] g = vFn (vM MT0 D) nb_X9_payStaff F 1 0 [vR 46, vR 61, vI (i + 1), vR (46 + 3 + e), vI p] [] (psE 61 (46 + 3 + e) p g) := by
  rcases (show i = 0 ∨ i = 1 ∨ i = 2 by omega) with q | q | q <;> subst q <;> rcases (show e = 0 ∨ e = 1 ∨ e = 2 ∨ e = 3 ∨ e = 4 ∨ e = 5 ∨ e = 6 ∨ e = 7 ∨ e = 8 ∨ e = 9 ∨ e = 10 ∨ e = 11 by omega) with rfl | rfl | rfl | rfl | rfl | rfl | rfl | rfl | rfl | rfl | rfl | rfl <;> (refine (vF_g rfl rfl).trans ?_; refine (vF_g rfl rfl).trans ?_; exact rfl)
theorem ps4_46_0 {D F i e p : Nat} {g : Vw} (he : e < 12) (hi : i < 3) : vFn (vM MT0 D) nb_X9_payStaff (F + 2) 4 0 [vR 46, vR 61, vI i, vR (46 + 3 + e), vI p] [] g = vFn (vM MT0 D) nb_X9_payStaff F 1 0 [vR 46, vR 61, vI (i + 1), vR (46 + 3 + e), vI p] [] (vup g (46 + 3 + e) 6 ((g (46 + 3 + e) 6 + 1) % 4294967296)) := by
  rcases (show i = 0 ∨ i = 1 ∨ i = 2 by omega) with q | q | q <;> subst q <;> rcases (show e = 0 ∨ e = 1 ∨ e = 2 ∨ e = 3 ∨ e = 4 ∨ e = 5 ∨ e = 6 ∨ e = 7 ∨ e = 8 ∨ e = 9 ∨ e = 10 ∨ e = 11 by omega) with rfl | rfl | rfl | rfl | rfl | rfl | rfl | rfl | rfl | rfl | rfl | rfl <;> (refine (vF_g rfl rfl).trans ?_; refine (vF_g rfl rfl).trans ?_; exact rfl)
theorem psL_46_0 {D : Nat} {f : Vw} (hj : 0 < f 46 3) (h8 : f 46 3 ≤ 8) (h2 : f 46 2 ≤ 12) (h3 : f 61 6 ≤ 3) (hm : ∀ i, i < f 61 6 → f 62 i < 12) : ∀ (m i F : Nat) (x3 x4 : AV) (g : Vw), i + m = f 61 6 → FrW 46 f g → ∃ g' : Vw, vFn (vM MT0 D) nb_X9_payStaff (F + 4 * m + 2) 1 0 [vR 46, vR 61, vI i, x3, x4] [] g = some ((1, 0), vW 3, g') ∧ FrW 46 f g' := by
  intro m
  induction m with
  | zero =>
    intro i F x3 x4 g hi hg
    have e6 : g 61 6 = f 61 6 := hg 61 6 (Or.inr (Or.inr (Or.inr (Or.inr ⟨0, by decide, Or.inl ⟨by decide, by decide, by decide, by decide⟩⟩))))
    rw [show F + 4 * 0 + 2 = F + 2 by omega]
    exact ⟨g, ps1g_46_0 (by omega) (by omega), hg⟩
  | succ m ih =>
    intro i F x3 x4 g hi hg
    have e6 : g 61 6 = f 61 6 := hg 61 6 (Or.inr (Or.inr (Or.inr (Or.inr ⟨0, by decide, Or.inl ⟨by decide, by decide, by decide, by decide⟩⟩))))
    have e1 : g 62 i = f 62 i := hg 62 i (Or.inr (Or.inr (Or.inr (Or.inr ⟨0, by decide, Or.inr (by decide)⟩))))
    have e2 : g 46 2 = f 46 2 := hg 46 2 (Or.inr (Or.inr (Or.inl ⟨rfl, by decide⟩)))
    have e3 : g 46 3 = f 46 3 := hg 46 3 (Or.inr (Or.inr (Or.inl ⟨rfl, by decide⟩)))
    have he := hm i (by omega)
    have he9 : f 62 i < 12 := by omega
    have hi3 : i < 3 := by omega
    rw [show F + 4 * (m + 1) + 2 = F + 4 * m + 2 + 2 + 1 + 1 by omega]
    have hs : ∃ G : Vw, vFn (vM MT0 D) nb_X9_payStaff (F + 4 * m + 2 + 2 + 1) 2 0 [vR 46, vR 61, vI i, x3, x4] [] g = vFn (vM MT0 D) nb_X9_payStaff (F + 4 * m + 2) 1 0 [vR 46, vR 61, vI (i + 1), vR (46 + 3 + f 62 i), vI (g_imul (g 61 3) (g (46 + 3 + f 62 i) 2))] [] G ∧ FrW 46 g G := by
      have hc := (show vFn (vM MT0 D) nb_X9_payStaff (F + 4 * m + 2 + 2 + 1) 2 0 [vR 46, vR 61, vI i, x3, x4] [] g = vc3 (bv (g 61 4)) (bv (g_imul (g 61 3) (g (46 + 3 + f 62 i) 2))) (vFn (vM MT0 D) nb_X9_payStaff (F + 4 * m + 2 + 2) 4 0 [vR 46, vR 61, vI i, vR (46 + 3 + f 62 i), vI (g_imul (g 61 3) (g (46 + 3 + f 62 i) 2))] [] g) (vFn (vM MT0 D) nb_X9_payStaff (F + 4 * m + 2 + 2) 3 0 [vR 46, vR 61, vI i, vR (46 + 3 + f 62 i), vI (g_imul (g 61 3) (g (46 + 3 + f 62 i) 2))] [] g) (vFn (vM MT0 D) nb_X9_payStaff (F + 4 * m + 2 + 2) 3 0 [vR 46, vR 61, vI i, vR (46 + 3 + f 62 i), vI (g_imul (g 61 3) (g (46 + 3 + f 62 i) 2))] [] g) from by
        rcases (show i = 0 ∨ i = 1 ∨ i = 2 by omega) with q | q | q
        · subst q; exact ps2_46_0_0 he9 e1
        · subst q; exact ps2_46_0_1 he9 e1
        · subst q; exact ps2_46_0_2 he9 e1)
      rcases vc3_or (u := bv (g 61 4)) (w := bv (g_imul (g 61 3) (g (46 + 3 + f 62 i) 2))) (a := vFn (vM MT0 D) nb_X9_payStaff (F + 4 * m + 2 + 2) 4 0 [vR 46, vR 61, vI i, vR (46 + 3 + f 62 i), vI (g_imul (g 61 3) (g (46 + 3 + f 62 i) 2))] [] g) (b := vFn (vM MT0 D) nb_X9_payStaff (F + 4 * m + 2 + 2) 3 0 [vR 46, vR 61, vI i, vR (46 + 3 + f 62 i), vI (g_imul (g 61 3) (g (46 + 3 + f 62 i) 2))] [] g) with q | q
      · exact ⟨_, hc.trans (q.trans (ps4_46_0 he9 hi3)), un_F (j := 0) (by omega) (by omega) (by omega)⟩
      · exact ⟨_, hc.trans (q.trans (ps3_46_0 he9 hi3)), ps_F (j := 0) (by omega) (by omega) (by omega) (by omega)⟩
    obtain ⟨G, s1, s2⟩ := hs
    obtain ⟨g', k1, k2⟩ := ih (i + 1) F (vR (46 + 3 + f 62 i)) (vI (g_imul (g 61 3) (g (46 + 3 + f 62 i) 2))) G (by omega) (frW_tr hg s2)
    exact ⟨g', (ps1l_46_0 (by omega) (by omega)).trans (s1.trans k1), k2⟩
theorem ps_46_0 {D : Nat} {f : Vw} (hj : 0 < f 46 3) (h8 : f 46 3 ≤ 8) (h2 : f 46 2 ≤ 12) (h3 : f 61 6 ≤ 3) (hm : ∀ i, i < f 61 6 → f 62 i < 12) : ∃ g, vM MT0 (D + 1) 90 [vR 46, vR 61] f = some ((1, 0), vW 3, g) ∧ FrW 46 f g := by
  obtain ⟨F, hF, go⟩ := vM_at (D := D) (y := 90) (as := [vR 46, vR 61]) (f := f) rfl rfl rfl rfl
  obtain ⟨g', k1, k2⟩ := psL_46_0 (D := D) hj h8 h2 h3 hm (f 61 6) 0 (F + 57 - 4 * f 61 6) (vW 3) (vW 3) f (by omega) frW_rf
  rw [show F + 57 - 4 * f 61 6 + 4 * f 61 6 + 2 = F + 59 by omega] at k1
  have e0 : vFn (vM MT0 D) nb_X9_payStaff (F + 60) 0 0 (iniL 5 [vR 46, vR 61]) [] f = vFn (vM MT0 D) nb_X9_payStaff (F + 59) 1 0 [vR 46, vR 61, vI 0, vW 3, vW 3] [] f := by
    refine (vF_g rfl rfl).trans ?_
    exact rfl
  exact ⟨g', go _ (e0.trans k1), k2⟩
theorem hr2_46_1_0 {D F e r : Nat} {x4 : AV} {g : Vw} (he : e < 12) (h : g 65 0 = e) : vFn (vM MT0 D) nb_X9_hearReplies (F + 1) 2 0 [vR 46, vR 64, vI r, vI 0, x4] [] g = vFn (vM MT0 D) nb_X9_hearReplies F 1 0 [vR 46, vR 64, vI ((r + g (46 + 3 + e) 2) % 4294967296), vI (0 + 1), vI e] [] (vup g (46 + 17 + 3 * 1) e ((g (46 + 17 + 3 * 1) e + 1) % 4294967296)) := by
  refine (vF_g rfl rfl).trans ?_
  refine Eq.trans (b := vB (vM MT0 D) (vFn (vM MT0 D) nb_X9_hearReplies F) hr2T hr2R 0 [vR 46, vR 64, vI r, vI 0, x4] [vI (g 65 0)] g) rfl ?_
  rw [h]
  clear h
  rcases (show e = 0 ∨ e = 1 ∨ e = 2 ∨ e = 3 ∨ e = 4 ∨ e = 5 ∨ e = 6 ∨ e = 7 ∨ e = 8 ∨ e = 9 ∨ e = 10 ∨ e = 11 by omega) with rfl | rfl | rfl | rfl | rfl | rfl | rfl | rfl | rfl | rfl | rfl | rfl <;> exact rfl
theorem ps2_46_1_0 {D F e : Nat} {x3 x4 : AV} {g : Vw} (he : e < 12) (h : g 65 0 = e) : vFn (vM MT0 D) nb_X9_payStaff (F + 1) 2 0 [vR 46, vR 64, vI 0, x3, x4] [] g = vc3 (bv (g 64 4)) (bv (g_imul (g 64 3) (g (46 + 3 + e) 2))) (vFn (vM MT0 D) nb_X9_payStaff F 4 0 [vR 46, vR 64, vI 0, vR (46 + 3 + e), vI (g_imul (g 64 3) (g (46 + 3 + e) 2))] [] g) (vFn (vM MT0 D) nb_X9_payStaff F 3 0 [vR 46, vR 64, vI 0, vR (46 + 3 + e), vI (g_imul (g 64 3) (g (46 + 3 + e) 2))] [] g) (vFn (vM MT0 D) nb_X9_payStaff F 3 0 [vR 46, vR 64, vI 0, vR (46 + 3 + e), vI (g_imul (g 64 3) (g (46 + 3 + e) 2))] [] g) := by
  refine (vF_g rfl rfl).trans ?_
  refine Eq.trans (b := vB (vM MT0 D) (vFn (vM MT0 D) nb_X9_payStaff F) ps2T ps2R 0 [vR 46, vR 64, vI 0, x3, x4] [vI (g 65 0), vR 47] g) rfl ?_
  rw [h]
  clear h
  rcases (show e = 0 ∨ e = 1 ∨ e = 2 ∨ e = 3 ∨ e = 4 ∨ e = 5 ∨ e = 6 ∨ e = 7 ∨ e = 8 ∨ e = 9 ∨ e = 10 ∨ e = 11 by omega) with rfl | rfl | rfl | rfl | rfl | rfl | rfl | rfl | rfl | rfl | rfl | rfl <;> exact rfl
theorem hr2_46_1_1 {D F e r : Nat} {x4 : AV} {g : Vw} (he : e < 12) (h : g 65 1 = e) : vFn (vM MT0 D) nb_X9_hearReplies (F + 1) 2 0 [vR 46, vR 64, vI r, vI 1, x4] [] g = vFn (vM MT0 D) nb_X9_hearReplies F 1 0 [vR 46, vR 64, vI ((r + g (46 + 3 + e) 2) % 4294967296), vI (1 + 1), vI e] [] (vup g (46 + 17 + 3 * 1) e ((g (46 + 17 + 3 * 1) e + 1) % 4294967296)) := by
  refine (vF_g rfl rfl).trans ?_
  refine Eq.trans (b := vB (vM MT0 D) (vFn (vM MT0 D) nb_X9_hearReplies F) hr2T hr2R 0 [vR 46, vR 64, vI r, vI 1, x4] [vI (g 65 1)] g) rfl ?_
  rw [h]
  clear h
  rcases (show e = 0 ∨ e = 1 ∨ e = 2 ∨ e = 3 ∨ e = 4 ∨ e = 5 ∨ e = 6 ∨ e = 7 ∨ e = 8 ∨ e = 9 ∨ e = 10 ∨ e = 11 by omega) with rfl | rfl | rfl | rfl | rfl | rfl | rfl | rfl | rfl | rfl | rfl | rfl <;> exact rfl
theorem ps2_46_1_1 {D F e : Nat} {x3 x4 : AV} {g : Vw} (he : e < 12) (h : g 65 1 = e) : vFn (vM MT0 D) nb_X9_payStaff (F + 1) 2 0 [vR 46, vR 64, vI 1, x3, x4] [] g = vc3 (bv (g 64 4)) (bv (g_imul (g 64 3) (g (46 + 3 + e) 2))) (vFn (vM MT0 D) nb_X9_payStaff F 4 0 [vR 46, vR 64, vI 1, vR (46 + 3 + e), vI (g_imul (g 64 3) (g (46 + 3 + e) 2))] [] g) (vFn (vM MT0 D) nb_X9_payStaff F 3 0 [vR 46, vR 64, vI 1, vR (46 + 3 + e), vI (g_imul (g 64 3) (g (46 + 3 + e) 2))] [] g) (vFn (vM MT0 D) nb_X9_payStaff F 3 0 [vR 46, vR 64, vI 1, vR (46 + 3 + e), vI (g_imul (g 64 3) (g (46 + 3 + e) 2))] [] g) := by
  refine (vF_g rfl rfl).trans ?_
  refine Eq.trans (b := vB (vM MT0 D) (vFn (vM MT0 D) nb_X9_payStaff F) ps2T ps2R 0 [vR 46, vR 64, vI 1, x3, x4] [vI (g 65 1), vR 47] g) rfl ?_
  rw [h]
  clear h
  rcases (show e = 0 ∨ e = 1 ∨ e = 2 ∨ e = 3 ∨ e = 4 ∨ e = 5 ∨ e = 6 ∨ e = 7 ∨ e = 8 ∨ e = 9 ∨ e = 10 ∨ e = 11 by omega) with rfl | rfl | rfl | rfl | rfl | rfl | rfl | rfl | rfl | rfl | rfl | rfl <;> exact rfl
theorem hr2_46_1_2 {D F e r : Nat} {x4 : AV} {g : Vw} (he : e < 12) (h : g 65 2 = e) : vFn (vM MT0 D) nb_X9_hearReplies (F + 1) 2 0 [vR 46, vR 64, vI r, vI 2, x4] [] g = vFn (vM MT0 D) nb_X9_hearReplies F 1 0 [vR 46, vR 64, vI ((r + g (46 + 3 + e) 2) % 4294967296), vI (2 + 1), vI e] [] (vup g (46 + 17 + 3 * 1) e ((g (46 + 17 + 3 * 1) e + 1) % 4294967296)) := by
  refine (vF_g rfl rfl).trans ?_
  refine Eq.trans (b := vB (vM MT0 D) (vFn (vM MT0 D) nb_X9_hearReplies F) hr2T hr2R 0 [vR 46, vR 64, vI r, vI 2, x4] [vI (g 65 2)] g) rfl ?_
  rw [h]
  clear h
  rcases (show e = 0 ∨ e = 1 ∨ e = 2 ∨ e = 3 ∨ e = 4 ∨ e = 5 ∨ e = 6 ∨ e = 7 ∨ e = 8 ∨ e = 9 ∨ e = 10 ∨ e = 11 by omega) with rfl | rfl | rfl | rfl | rfl | rfl | rfl | rfl | rfl | rfl | rfl | rfl <;> exact rfl
theorem ps2_46_1_2 {D F e : Nat} {x3 x4 : AV} {g : Vw} (he : e < 12) (h : g 65 2 = e) : vFn (vM MT0 D) nb_X9_payStaff (F + 1) 2 0 [vR 46, vR 64, vI 2, x3, x4] [] g = vc3 (bv (g 64 4)) (bv (g_imul (g 64 3) (g (46 + 3 + e) 2))) (vFn (vM MT0 D) nb_X9_payStaff F 4 0 [vR 46, vR 64, vI 2, vR (46 + 3 + e), vI (g_imul (g 64 3) (g (46 + 3 + e) 2))] [] g) (vFn (vM MT0 D) nb_X9_payStaff F 3 0 [vR 46, vR 64, vI 2, vR (46 + 3 + e), vI (g_imul (g 64 3) (g (46 + 3 + e) 2))] [] g) (vFn (vM MT0 D) nb_X9_payStaff F 3 0 [vR 46, vR 64, vI 2, vR (46 + 3 + e), vI (g_imul (g 64 3) (g (46 + 3 + e) 2))] [] g) := by
  refine (vF_g rfl rfl).trans ?_
  refine Eq.trans (b := vB (vM MT0 D) (vFn (vM MT0 D) nb_X9_payStaff F) ps2T ps2R 0 [vR 46, vR 64, vI 2, x3, x4] [vI (g 65 2), vR 47] g) rfl ?_
  rw [h]
  clear h
  rcases (show e = 0 ∨ e = 1 ∨ e = 2 ∨ e = 3 ∨ e = 4 ∨ e = 5 ∨ e = 6 ∨ e = 7 ∨ e = 8 ∨ e = 9 ∨ e = 10 ∨ e = 11 by omega) with rfl | rfl | rfl | rfl | rfl | rfl | rfl | rfl | rfl | rfl | rfl | rfl <;> exact rfl
theorem hr1l_46_1 {D F i r : Nat} {x4 : AV} {g : Vw} (h : i < g 64 6) (h3 : g 64 6 ≤ 3) : vFn (vM MT0 D) nb_X9_hearReplies (F + 1) 1 0 [vR 46, vR 64, vI r, vI i, x4] [] g = vFn (vM MT0 D) nb_X9_hearReplies F 2 0 [vR 46, vR 64, vI r, vI i, x4] [] g := by
  refine (vF_g rfl rfl).trans ?_
  refine (vlt (x := i) (y := g 64 6) (by omega) h).trans ?_
  exact rfl
theorem hr1g_46_1 {D F i r : Nat} {x4 : AV} {g : Vw} (h : g 64 6 ≤ i) (h3 : i ≤ 3) : vFn (vM MT0 D) nb_X9_hearReplies (F + 1) 1 0 [vR 46, vR 64, vI r, vI i, x4] [] g = vFn (vM MT0 D) nb_X9_hearReplies F 3 0 [vR 46, vR 64, vI r, vI i, x4] [] g := by
  refine (vF_g rfl rfl).trans ?_
  refine (vge2 (x := i) (y := g 64 6) (by omega) h).trans ?_
  exact rfl
theorem hr3_46_1 {D F r : Nat} {x3 x4 : AV} {g : Vw} : vFn (vM MT0 D) nb_X9_hearReplies (F + 1) 3 0 [vR 46, vR 64, vI r, x3, x4] [] g = some ((1, 0), vW 3, hrE 46 64 r g) := by
  refine (vF_g rfl rfl).trans ?_
  exact rfl
theorem hrL_46_1 {D : Nat} {f : Vw} (h3 : f 64 6 ≤ 3) (hm : ∀ i, i < f 64 6 → f 65 i < 12) : ∀ (m i r F : Nat) (x4 : AV) (g : Vw), i + m = f 64 6 → (∀ a b, a ≠ 46 + 17 + 3 * 1 → g a b = f a b) → ∃ (r' i' : Nat) (y4 : AV) (g' : Vw), vFn (vM MT0 D) nb_X9_hearReplies (F + 2 * m + 1) 1 0 [vR 46, vR 64, vI r, vI i, x4] [] g = vFn (vM MT0 D) nb_X9_hearReplies F 3 0 [vR 46, vR 64, vI r', vI i', y4] [] g' ∧ ∀ a b, a ≠ 46 + 17 + 3 * 1 → g' a b = f a b := by
  intro m
  induction m with
  | zero =>
    intro i r F x4 g hi hg
    have e6 := hg 64 6 (by decide)
    rw [show F + 2 * 0 + 1 = F + 1 by omega]
    exact ⟨r, i, x4, g, hr1g_46_1 (by omega) (by omega), hg⟩
  | succ m ih =>
    intro i r F x4 g hi hg
    have e6 := hg 64 6 (by decide)
    have e1 := hg 65 i (by decide)
    have he := hm i (by omega)
    have hs : ∀ r9 : Nat, vFn (vM MT0 D) nb_X9_hearReplies (F + 2 * m + 1 + 1) 2 0 [vR 46, vR 64, vI r, vI i, x4] [] g = vFn (vM MT0 D) nb_X9_hearReplies (F + 2 * m + 1) 1 0 [vR 46, vR 64, vI ((r + g (46 + 3 + f 65 i) 2) % 4294967296), vI (i + 1), vI (f 65 i)] [] (vup g (46 + 17 + 3 * 1) (f 65 i) ((g (46 + 17 + 3 * 1) (f 65 i) + 1) % 4294967296)) := fun _ => by
      rcases (show i = 0 ∨ i = 1 ∨ i = 2 by omega) with q | q | q
      · subst q; exact hr2_46_1_0 he e1
      · subst q; exact hr2_46_1_1 he e1
      · subst q; exact hr2_46_1_2 he e1
    obtain ⟨r', i', y4, g', k1, k2⟩ := ih (i + 1) ((r + g (46 + 3 + f 65 i) 2) % 4294967296) F (vI (f 65 i)) (vup g (46 + 17 + 3 * 1) (f 65 i) ((g (46 + 17 + 3 * 1) (f 65 i) + 1) % 4294967296)) (by omega) (fun a b h => (vup_ne (Or.inl h)).trans (hg a b h))
    refine ⟨r', i', y4, g', ?_, k2⟩
    rw [show F + 2 * (m + 1) + 1 = F + 2 * m + 1 + 1 + 1 by omega]
    exact (hr1l_46_1 (by omega) (by omega)).trans ((hs 0).trans k1)
theorem hr_46_1 {D : Nat} {f : Vw} (hj : 1 < f 46 3) (h8 : f 46 3 ≤ 8) (h2 : f 46 2 ≤ 12) (h3 : f 64 6 ≤ 3) (hm : ∀ i, i < f 64 6 → f 65 i < 12) : ∃ g, vM MT0 (D + 1) 89 [vR 46, vR 64] f = some ((1, 0), vW 3, g) ∧ FrW 46 f g := by
  obtain ⟨F, hF, go⟩ := vM_at (D := D) (y := 89) (as := [vR 46, vR 64]) (f := f) rfl rfl rfl rfl
  obtain ⟨r', i', y4, g', k1, k2⟩ := hrL_46_1 (D := D) h3 hm (f 64 6) 0 0 (F + 57 - 2 * f 64 6 + 1) (vW 3) f (by omega) (fun _ _ _ => rfl)
  rw [show F + 57 - 2 * f 64 6 + 1 + 2 * f 64 6 + 1 = F + 59 by omega] at k1
  have e0 : vFn (vM MT0 D) nb_X9_hearReplies (F + 60) 0 0 (iniL 5 [vR 46, vR 64]) [] f = vFn (vM MT0 D) nb_X9_hearReplies (F + 59) 1 0 [vR 46, vR 64, vI 0, vI 0, vW 3] [] f := by
    refine (vF_g rfl rfl).trans ?_
    exact rfl
  exact ⟨_, go _ (e0.trans (k1.trans hr3_46_1)), hr_F hj h8 k2⟩
theorem ps1l_46_1 {D F i : Nat} {x3 x4 : AV} {g : Vw} (h : i < g 64 6) (h3 : g 64 6 ≤ 3) : vFn (vM MT0 D) nb_X9_payStaff (F + 1) 1 0 [vR 46, vR 64, vI i, x3, x4] [] g = vFn (vM MT0 D) nb_X9_payStaff F 2 0 [vR 46, vR 64, vI i, x3, x4] [] g := by
  refine (vF_g rfl rfl).trans ?_
  refine (vlt (x := i) (y := g 64 6) (by omega) h).trans ?_
  exact rfl
theorem ps1g_46_1 {D F i : Nat} {x3 x4 : AV} {g : Vw} (h : g 64 6 ≤ i) (h3 : i ≤ 3) : vFn (vM MT0 D) nb_X9_payStaff (F + 2) 1 0 [vR 46, vR 64, vI i, x3, x4] [] g = some ((1, 0), vW 3, g) := by
  refine (vF_g rfl rfl).trans ?_
  refine (vge2 (x := i) (y := g 64 6) (by omega) h).trans ?_
  refine (vF_g rfl rfl).trans ?_
  exact rfl
theorem ps3_46_1 {D F i e p : Nat} {g : Vw} (he : e < 12) (hi : i < 3) : vFn (vM MT0 D) nb_X9_payStaff (F + 2) 3 0 [vR 46, vR 64, vI i, vR (46 + 3 + e), vI p] [] g = vFn (vM MT0 D) nb_X9_payStaff F 1 0 [vR 46, vR 64, vI (i + 1), vR (46 + 3 + e), vI p] [] (psE 64 (46 + 3 + e) p g) := by
  rcases (show i = 0 ∨ i = 1 ∨ i = 2 by omega) with q | q | q <;> subst q <;> rcases (show e = 0 ∨ e = 1 ∨ e = 2 ∨ e = 3 ∨ e = 4 ∨ e = 5 ∨ e = 6 ∨ e = 7 ∨ e = 8 ∨ e = 9 ∨ e = 10 ∨ e = 11 by omega) with rfl | rfl | rfl | rfl | rfl | rfl | rfl | rfl | rfl | rfl | rfl | rfl <;> (refine (vF_g rfl rfl).trans ?_; refine (vF_g rfl rfl).trans ?_; exact rfl)
theorem ps4_46_1 {D F i e p : Nat} {g : Vw} (he : e < 12) (hi : i < 3) : vFn (vM MT0 D) nb_X9_payStaff (F + 2) 4 0 [vR 46, vR 64, vI i, vR (46 + 3 + e), vI p] [] g = vFn (vM MT0 D) nb_X9_payStaff F 1 0 [vR 46, vR 64, vI (i + 1), vR (46 + 3 + e), vI p] [] (vup g (46 + 3 + e) 6 ((g (46 + 3 + e) 6 + 1) % 4294967296)) := by
  rcases (show i = 0 ∨ i = 1 ∨ i = 2 by omega) with q | q | q <;> subst q <;> rcases (show e = 0 ∨ e = 1 ∨ e = 2 ∨ e = 3 ∨ e = 4 ∨ e = 5 ∨ e = 6 ∨ e = 7 ∨ e = 8 ∨ e = 9 ∨ e = 10 ∨ e = 11 by omega) with rfl | rfl | rfl | rfl | rfl | rfl | rfl | rfl | rfl | rfl | rfl | rfl <;> (refine (vF_g rfl rfl).trans ?_; refine (vF_g rfl rfl).trans ?_; exact rfl)
theorem psL_46_1 {D : Nat} {f : Vw} (hj : 1 < f 46 3) (h8 : f 46 3 ≤ 8) (h2 : f 46 2 ≤ 12) (h3 : f 64 6 ≤ 3) (hm : ∀ i, i < f 64 6 → f 65 i < 12) : ∀ (m i F : Nat) (x3 x4 : AV) (g : Vw), i + m = f 64 6 → FrW 46 f g → ∃ g' : Vw, vFn (vM MT0 D) nb_X9_payStaff (F + 4 * m + 2) 1 0 [vR 46, vR 64, vI i, x3, x4] [] g = some ((1, 0), vW 3, g') ∧ FrW 46 f g' := by
  intro m
  induction m with
  | zero =>
    intro i F x3 x4 g hi hg
    have e6 : g 64 6 = f 64 6 := hg 64 6 (Or.inr (Or.inr (Or.inr (Or.inr ⟨1, by decide, Or.inl ⟨by decide, by decide, by decide, by decide⟩⟩))))
    rw [show F + 4 * 0 + 2 = F + 2 by omega]
    exact ⟨g, ps1g_46_1 (by omega) (by omega), hg⟩
  | succ m ih =>
    intro i F x3 x4 g hi hg
    have e6 : g 64 6 = f 64 6 := hg 64 6 (Or.inr (Or.inr (Or.inr (Or.inr ⟨1, by decide, Or.inl ⟨by decide, by decide, by decide, by decide⟩⟩))))
    have e1 : g 65 i = f 65 i := hg 65 i (Or.inr (Or.inr (Or.inr (Or.inr ⟨1, by decide, Or.inr (by decide)⟩))))
    have e2 : g 46 2 = f 46 2 := hg 46 2 (Or.inr (Or.inr (Or.inl ⟨rfl, by decide⟩)))
    have e3 : g 46 3 = f 46 3 := hg 46 3 (Or.inr (Or.inr (Or.inl ⟨rfl, by decide⟩)))
    have he := hm i (by omega)
    have he9 : f 65 i < 12 := by omega
    have hi3 : i < 3 := by omega
    rw [show F + 4 * (m + 1) + 2 = F + 4 * m + 2 + 2 + 1 + 1 by omega]
    have hs : ∃ G : Vw, vFn (vM MT0 D) nb_X9_payStaff (F + 4 * m + 2 + 2 + 1) 2 0 [vR 46, vR 64, vI i, x3, x4] [] g = vFn (vM MT0 D) nb_X9_payStaff (F + 4 * m + 2) 1 0 [vR 46, vR 64, vI (i + 1), vR (46 + 3 + f 65 i), vI (g_imul (g 64 3) (g (46 + 3 + f 65 i) 2))] [] G ∧ FrW 46 g G := by
      have hc := (show vFn (vM MT0 D) nb_X9_payStaff (F + 4 * m + 2 + 2 + 1) 2 0 [vR 46, vR 64, vI i, x3, x4] [] g = vc3 (bv (g 64 4)) (bv (g_imul (g 64 3) (g (46 + 3 + f 65 i) 2))) (vFn (vM MT0 D) nb_X9_payStaff (F + 4 * m + 2 + 2) 4 0 [vR 46, vR 64, vI i, vR (46 + 3 + f 65 i), vI (g_imul (g 64 3) (g (46 + 3 + f 65 i) 2))] [] g) (vFn (vM MT0 D) nb_X9_payStaff (F + 4 * m + 2 + 2) 3 0 [vR 46, vR 64, vI i, vR (46 + 3 + f 65 i), vI (g_imul (g 64 3) (g (46 + 3 + f 65 i) 2))] [] g) (vFn (vM MT0 D) nb_X9_payStaff (F + 4 * m + 2 + 2) 3 0 [vR 46, vR 64, vI i, vR (46 + 3 + f 65 i), vI (g_imul (g 64 3) (g (46 + 3 + f 65 i) 2))] [] g) from by
        rcases (show i = 0 ∨ i = 1 ∨ i = 2 by omega) with q | q | q
        · subst q; exact ps2_46_1_0 he9 e1
        · subst q; exact ps2_46_1_1 he9 e1
        · subst q; exact ps2_46_1_2 he9 e1)
      rcases vc3_or (u := bv (g 64 4)) (w := bv (g_imul (g 64 3) (g (46 + 3 + f 65 i) 2))) (a := vFn (vM MT0 D) nb_X9_payStaff (F + 4 * m + 2 + 2) 4 0 [vR 46, vR 64, vI i, vR (46 + 3 + f 65 i), vI (g_imul (g 64 3) (g (46 + 3 + f 65 i) 2))] [] g) (b := vFn (vM MT0 D) nb_X9_payStaff (F + 4 * m + 2 + 2) 3 0 [vR 46, vR 64, vI i, vR (46 + 3 + f 65 i), vI (g_imul (g 64 3) (g (46 + 3 + f 65 i) 2))] [] g) with q | q
      · exact ⟨_, hc.trans (q.trans (ps4_46_1 he9 hi3)), un_F (j := 1) (by omega) (by omega) (by omega)⟩
      · exact ⟨_, hc.trans (q.trans (ps3_46_1 he9 hi3)), ps_F (j := 1) (by omega) (by omega) (by omega) (by omega)⟩
    obtain ⟨G, s1, s2⟩ := hs
    obtain ⟨g', k1, k2⟩ := ih (i + 1) F (vR (46 + 3 + f 65 i)) (vI (g_imul (g 64 3) (g (46 + 3 + f 65 i) 2))) G (by omega) (frW_tr hg s2)
    exact ⟨g', (ps1l_46_1 (by omega) (by omega)).trans (s1.trans k1), k2⟩
theorem ps_46_1 {D : Nat} {f : Vw} (hj : 1 < f 46 3) (h8 : f 46 3 ≤ 8) (h2 : f 46 2 ≤ 12) (h3 : f 64 6 ≤ 3) (hm : ∀ i, i < f 64 6 → f 65 i < 12) : ∃ g, vM MT0 (D + 1) 90 [vR 46, vR 64] f = some ((1, 0), vW 3, g) ∧ FrW 46 f g := by
  obtain ⟨F, hF, go⟩ := vM_at (D := D) (y := 90) (as := [vR 46, vR 64]) (f := f) rfl rfl rfl rfl
  obtain ⟨g', k1, k2⟩ := psL_46_1 (D := D) hj h8 h2 h3 hm (f 64 6) 0 (F + 57 - 4 * f 64 6) (vW 3) (vW 3) f (by omega) frW_rf
  rw [show F + 57 - 4 * f 64 6 + 4 * f 64 6 + 2 = F + 59 by omega] at k1
  have e0 : vFn (vM MT0 D) nb_X9_payStaff (F + 60) 0 0 (iniL 5 [vR 46, vR 64]) [] f = vFn (vM MT0 D) nb_X9_payStaff (F + 59) 1 0 [vR 46, vR 64, vI 0, vW 3, vW 3] [] f := by
    refine (vF_g rfl rfl).trans ?_
    exact rfl
  exact ⟨g', go _ (e0.trans k1), k2⟩
theorem hr2_46_2_0 {D F e r : Nat} {x4 : AV} {g : Vw} (he : e < 12) (h : g 68 0 = e) : vFn (vM MT0 D) nb_X9_hearReplies (F + 1) 2 0 [vR 46, vR 67, vI r, vI 0, x4] [] g = vFn (vM MT0 D) nb_X9_hearReplies F 1 0 [vR 46, vR 67, vI ((r + g (46 + 3 + e) 2) % 4294967296), vI (0 + 1), vI e] [] (vup g (46 + 17 + 3 * 2) e ((g (46 + 17 + 3 * 2) e + 1) % 4294967296)) := by
  refine (vF_g rfl rfl).trans ?_
  refine Eq.trans (b := vB (vM MT0 D) (vFn (vM MT0 D) nb_X9_hearReplies F) hr2T hr2R 0 [vR 46, vR 67, vI r, vI 0, x4] [vI (g 68 0)] g) rfl ?_
  rw [h]
  clear h
  rcases (show e = 0 ∨ e = 1 ∨ e = 2 ∨ e = 3 ∨ e = 4 ∨ e = 5 ∨ e = 6 ∨ e = 7 ∨ e = 8 ∨ e = 9 ∨ e = 10 ∨ e = 11 by omega) with rfl | rfl | rfl | rfl | rfl | rfl | rfl | rfl | rfl | rfl | rfl | rfl <;> exact rfl
theorem ps2_46_2_0 {D F e : Nat} {x3 x4 : AV} {g : Vw} (he : e < 12) (h : g 68 0 = e) : vFn (vM MT0 D) nb_X9_payStaff (F + 1) 2 0 [vR 46, vR 67, vI 0, x3, x4] [] g = vc3 (bv (g 67 4)) (bv (g_imul (g 67 3) (g (46 + 3 + e) 2))) (vFn (vM MT0 D) nb_X9_payStaff F 4 0 [vR 46, vR 67, vI 0, vR (46 + 3 + e), vI (g_imul (g 67 3) (g (46 + 3 + e) 2))] [] g) (vFn (vM MT0 D) nb_X9_payStaff F 3 0 [vR 46, vR 67, vI 0, vR (46 + 3 + e), vI (g_imul (g 67 3) (g (46 + 3 + e) 2))] [] g) (vFn (vM MT0 D) nb_X9_payStaff F 3 0 [vR 46, vR 67, vI 0, vR (46 + 3 + e), vI (g_imul (g 67 3) (g (46 + 3 + e) 2))] [] g) := by
  refine (vF_g rfl rfl).trans ?_
  refine Eq.trans (b := vB (vM MT0 D) (vFn (vM MT0 D) nb_X9_payStaff F) ps2T ps2R 0 [vR 46, vR 67, vI 0, x3, x4] [vI (g 68 0), vR 47] g) rfl ?_
  rw [h]
  clear h
  rcases (show e = 0 ∨ e = 1 ∨ e = 2 ∨ e = 3 ∨ e = 4 ∨ e = 5 ∨ e = 6 ∨ e = 7 ∨ e = 8 ∨ e = 9 ∨ e = 10 ∨ e = 11 by omega) with rfl | rfl | rfl | rfl | rfl | rfl | rfl | rfl | rfl | rfl | rfl | rfl <;> exact rfl
theorem hr2_46_2_1 {D F e r : Nat} {x4 : AV} {g : Vw} (he : e < 12) (h : g 68 1 = e) : vFn (vM MT0 D) nb_X9_hearReplies (F + 1) 2 0 [vR 46, vR 67, vI r, vI 1, x4] [] g = vFn (vM MT0 D) nb_X9_hearReplies F 1 0 [vR 46, vR 67, vI ((r + g (46 + 3 + e) 2) % 4294967296), vI (1 + 1), vI e] [] (vup g (46 + 17 + 3 * 2) e ((g (46 + 17 + 3 * 2) e + 1) % 4294967296)) := by
  refine (vF_g rfl rfl).trans ?_
  refine Eq.trans (b := vB (vM MT0 D) (vFn (vM MT0 D) nb_X9_hearReplies F) hr2T hr2R 0 [vR 46, vR 67, vI r, vI 1, x4] [vI (g 68 1)] g) rfl ?_
  rw [h]
  clear h
  rcases (show e = 0 ∨ e = 1 ∨ e = 2 ∨ e = 3 ∨ e = 4 ∨ e = 5 ∨ e = 6 ∨ e = 7 ∨ e = 8 ∨ e = 9 ∨ e = 10 ∨ e = 11 by omega) with rfl | rfl | rfl | rfl | rfl | rfl | rfl | rfl | rfl | rfl | rfl | rfl <;> exact rfl
theorem ps2_46_2_1 {D F e : Nat} {x3 x4 : AV} {g : Vw} (he : e < 12) (h : g 68 1 = e) : vFn (vM MT0 D) nb_X9_payStaff (F + 1) 2 0 [vR 46, vR 67, vI 1, x3, x4] [] g = vc3 (bv (g 67 4)) (bv (g_imul (g 67 3) (g (46 + 3 + e) 2))) (vFn (vM MT0 D) nb_X9_payStaff F 4 0 [vR 46, vR 67, vI 1, vR (46 + 3 + e), vI (g_imul (g 67 3) (g (46 + 3 + e) 2))] [] g) (vFn (vM MT0 D) nb_X9_payStaff F 3 0 [vR 46, vR 67, vI 1, vR (46 + 3 + e), vI (g_imul (g 67 3) (g (46 + 3 + e) 2))] [] g) (vFn (vM MT0 D) nb_X9_payStaff F 3 0 [vR 46, vR 67, vI 1, vR (46 + 3 + e), vI (g_imul (g 67 3) (g (46 + 3 + e) 2))] [] g) := by
  refine (vF_g rfl rfl).trans ?_
  refine Eq.trans (b := vB (vM MT0 D) (vFn (vM MT0 D) nb_X9_payStaff F) ps2T ps2R 0 [vR 46, vR 67, vI 1, x3, x4] [vI (g 68 1), vR 47] g) rfl ?_
  rw [h]
  clear h
  rcases (show e = 0 ∨ e = 1 ∨ e = 2 ∨ e = 3 ∨ e = 4 ∨ e = 5 ∨ e = 6 ∨ e = 7 ∨ e = 8 ∨ e = 9 ∨ e = 10 ∨ e = 11 by omega) with rfl | rfl | rfl | rfl | rfl | rfl | rfl | rfl | rfl | rfl | rfl | rfl <;> exact rfl
theorem hr2_46_2_2 {D F e r : Nat} {x4 : AV} {g : Vw} (he : e < 12) (h : g 68 2 = e) : vFn (vM MT0 D) nb_X9_hearReplies (F + 1) 2 0 [vR 46, vR 67, vI r, vI 2, x4] [] g = vFn (vM MT0 D) nb_X9_hearReplies F 1 0 [vR 46, vR 67, vI ((r + g (46 + 3 + e) 2) % 4294967296), vI (2 + 1), vI e] [] (vup g (46 + 17 + 3 * 2) e ((g (46 + 17 + 3 * 2) e + 1) % 4294967296)) := by
  refine (vF_g rfl rfl).trans ?_
  refine Eq.trans (b := vB (vM MT0 D) (vFn (vM MT0 D) nb_X9_hearReplies F) hr2T hr2R 0 [vR 46, vR 67, vI r, vI 2, x4] [vI (g 68 2)] g) rfl ?_
  rw [h]
  clear h
  rcases (show e = 0 ∨ e = 1 ∨ e = 2 ∨ e = 3 ∨ e = 4 ∨ e = 5 ∨ e = 6 ∨ e = 7 ∨ e = 8 ∨ e = 9 ∨ e = 10 ∨ e = 11 by omega) with rfl | rfl | rfl | rfl | rfl | rfl | rfl | rfl | rfl | rfl | rfl | rfl <;> exact rfl
theorem ps2_46_2_2 {D F e : Nat} {x3 x4 : AV} {g : Vw} (he : e < 12) (h : g 68 2 = e) : vFn (vM MT0 D) nb_X9_payStaff (F + 1) 2 0 [vR 46, vR 67, vI 2, x3, x4] [] g = vc3 (bv (g 67 4)) (bv (g_imul (g 67 3) (g (46 + 3 + e) 2))) (vFn (vM MT0 D) nb_X9_payStaff F 4 0 [vR 46, vR 67, vI 2, vR (46 + 3 + e), vI (g_imul (g 67 3) (g (46 + 3 + e) 2))] [] g) (vFn (vM MT0 D) nb_X9_payStaff F 3 0 [vR 46, vR 67, vI 2, vR (46 + 3 + e), vI (g_imul (g 67 3) (g (46 + 3 + e) 2))] [] g) (vFn (vM MT0 D) nb_X9_payStaff F 3 0 [vR 46, vR 67, vI 2, vR (46 + 3 + e), vI (g_imul (g 67 3) (g (46 + 3 + e) 2))] [] g) := by
  refine (vF_g rfl rfl).trans ?_
  refine Eq.trans (b := vB (vM MT0 D) (vFn (vM MT0 D) nb_X9_payStaff F) ps2T ps2R 0 [vR 46, vR 67, vI 2, x3, x4] [vI (g 68 2), vR 47] g) rfl ?_
  rw [h]
  clear h
  rcases (show e = 0 ∨ e = 1 ∨ e = 2 ∨ e = 3 ∨ e = 4 ∨ e = 5 ∨ e = 6 ∨ e = 7 ∨ e = 8 ∨ e = 9 ∨ e = 10 ∨ e = 11 by omega) with rfl | rfl | rfl | rfl | rfl | rfl | rfl | rfl | rfl | rfl | rfl | rfl <;> exact rfl
theorem hr1l_46_2 {D F i r : Nat} {x4 : AV} {g : Vw} (h : i < g 67 6) (h3 : g 67 6 ≤ 3) : vFn (vM MT0 D) nb_X9_hearReplies (F + 1) 1 0 [vR 46, vR 67, vI r, vI i, x4] [] g = vFn (vM MT0 D) nb_X9_hearReplies F 2 0 [vR 46, vR 67, vI r, vI i, x4] [] g := by
  refine (vF_g rfl rfl).trans ?_
  refine (vlt (x := i) (y := g 67 6) (by omega) h).trans ?_
  exact rfl
theorem hr1g_46_2 {D F i r : Nat} {x4 : AV} {g : Vw} (h : g 67 6 ≤ i) (h3 : i ≤ 3) : vFn (vM MT0 D) nb_X9_hearReplies (F + 1) 1 0 [vR 46, vR 67, vI r, vI i, x4] [] g = vFn (vM MT0 D) nb_X9_hearReplies F 3 0 [vR 46, vR 67, vI r, vI i, x4] [] g := by
  refine (vF_g rfl rfl).trans ?_
  refine (vge2 (x := i) (y := g 67 6) (by omega) h).trans ?_
  exact rfl
theorem hr3_46_2 {D F r : Nat} {x3 x4 : AV} {g : Vw} : vFn (vM MT0 D) nb_X9_hearReplies (F + 1) 3 0 [vR 46, vR 67, vI r, x3, x4] [] g = some ((1, 0), vW 3, hrE 46 67 r g) := by
  refine (vF_g rfl rfl).trans ?_
  exact rfl
theorem hrL_46_2 {D : Nat} {f : Vw} (h3 : f 67 6 ≤ 3) (hm : ∀ i, i < f 67 6 → f 68 i < 12) : ∀ (m i r F : Nat) (x4 : AV) (g : Vw), i + m = f 67 6 → (∀ a b, a ≠ 46 + 17 + 3 * 2 → g a b = f a b) → ∃ (r' i' : Nat) (y4 : AV) (g' : Vw), vFn (vM MT0 D) nb_X9_hearReplies (F + 2 * m + 1) 1 0 [vR 46, vR 67, vI r, vI i, x4] [] g = vFn (vM MT0 D) nb_X9_hearReplies F 3 0 [vR 46, vR 67, vI r', vI i', y4] [] g' ∧ ∀ a b, a ≠ 46 + 17 + 3 * 2 → g' a b = f a b := by
  intro m
  induction m with
  | zero =>
    intro i r F x4 g hi hg
    have e6 := hg 67 6 (by decide)
    rw [show F + 2 * 0 + 1 = F + 1 by omega]
    exact ⟨r, i, x4, g, hr1g_46_2 (by omega) (by omega), hg⟩
  | succ m ih =>
    intro i r F x4 g hi hg
    have e6 := hg 67 6 (by decide)
    have e1 := hg 68 i (by decide)
    have he := hm i (by omega)
    have hs : ∀ r9 : Nat, vFn (vM MT0 D) nb_X9_hearReplies (F + 2 * m + 1 + 1) 2 0 [vR 46, vR 67, vI r, vI i, x4] [] g = vFn (vM MT0 D) nb_X9_hearReplies (F + 2 * m + 1) 1 0 [vR 46, vR 67, vI ((r + g (46 + 3 + f 68 i) 2) % 4294967296), vI (i + 1), vI (f 68 i)] [] (vup g (46 + 17 + 3 * 2) (f 68 i) ((g (46 + 17 + 3 * 2) (f 68 i) + 1) % 4294967296)) := fun _ => by
      rcases (show i = 0 ∨ i = 1 ∨ i = 2 by omega) with q | q | q
      · subst q; exact hr2_46_2_0 he e1
      · subst q; exact hr2_46_2_1 he e1
      · subst q; exact hr2_46_2_2 he e1
    obtain ⟨r', i', y4, g', k1, k2⟩ := ih (i + 1) ((r + g (46 + 3 + f 68 i) 2) % 4294967296) F (vI (f 68 i)) (vup g (46 + 17 + 3 * 2) (f 68 i) ((g (46 + 17 + 3 * 2) (f 68 i) + 1) % 4294967296)) (by omega) (fun a b h => (vup_ne (Or.inl h)).trans (hg a b h))
    refine ⟨r', i', y4, g', ?_, k2⟩
    rw [show F + 2 * (m + 1) + 1 = F + 2 * m + 1 + 1 + 1 by omega]
    exact (hr1l_46_2 (by omega) (by omega)).trans ((hs 0).trans k1)
theorem hr_46_2 {D : Nat} {f : Vw} (hj : 2 < f 46 3) (h8 : f 46 3 ≤ 8) (h2 : f 46 2 ≤ 12) (h3 : f 67 6 ≤ 3) (hm : ∀ i, i < f 67 6 → f 68 i < 12) : ∃ g, vM MT0 (D + 1) 89 [vR 46, vR 67] f = some ((1, 0), vW 3, g) ∧ FrW 46 f g := by
  obtain ⟨F, hF, go⟩ := vM_at (D := D) (y := 89) (as := [vR 46, vR 67]) (f := f) rfl rfl rfl rfl
  obtain ⟨r', i', y4, g', k1, k2⟩ := hrL_46_2 (D := D) h3 hm (f 67 6) 0 0 (F + 57 - 2 * f 67 6 + 1) (vW 3) f (by omega) (fun _ _ _ => rfl)
  rw [show F + 57 - 2 * f 67 6 + 1 + 2 * f 67 6 + 1 = F + 59 by omega] at k1
  have e0 : vFn (vM MT0 D) nb_X9_hearReplies (F + 60) 0 0 (iniL 5 [vR 46, vR 67]) [] f = vFn (vM MT0 D) nb_X9_hearReplies (F + 59) 1 0 [vR 46, vR 67, vI 0, vI 0, vW 3] [] f := by
    refine (vF_g rfl rfl).trans ?_
    exact rfl
  exact ⟨_, go _ (e0.trans (k1.trans hr3_46_2)), hr_F hj h8 k2⟩
theorem ps1l_46_2 {D F i : Nat} {x3 x4 : AV} {g : Vw} (h : i < g 67 6) (h3 : g 67 6 ≤ 3) : vFn (vM MT0 D) nb_X9_payStaff (F + 1) 1 0 [vR 46, vR 67, vI i, x3, x4] [] g = vFn (vM MT0 D) nb_X9_payStaff F 2 0 [vR 46, vR 67, vI i, x3, x4] [] g := by
  refine (vF_g rfl rfl).trans ?_
  refine (vlt (x := i) (y := g 67 6) (by omega) h).trans ?_
  exact rfl
theorem ps1g_46_2 {D F i : Nat} {x3 x4 : AV} {g : Vw} (h : g 67 6 ≤ i) (h3 : i ≤ 3) : vFn (vM MT0 D) nb_X9_payStaff (F + 2) 1 0 [vR 46, vR 67, vI i, x3, x4] [] g = some ((1, 0), vW 3, g) := by
  refine (vF_g rfl rfl).trans ?_
  refine (vge2 (x := i) (y := g 67 6) (by omega) h).trans ?_
  refine (vF_g rfl rfl).trans ?_
  exact rfl
theorem ps3_46_2 {D F i e p : Nat} {g : Vw} (he : e < 12) (hi : i < 3) : vFn (vM MT0 D) nb_X9_payStaff (F + 2) 3 0 [vR 46, vR 67, vI i, vR (46 + 3 + e), vI p] [] g = vFn (vM MT0 D) nb_X9_payStaff F 1 0 [vR 46, vR 67, vI (i + 1), vR (46 + 3 + e), vI p] [] (psE 67 (46 + 3 + e) p g) := by
  rcases (show i = 0 ∨ i = 1 ∨ i = 2 by omega) with q | q | q <;> subst q <;> rcases (show e = 0 ∨ e = 1 ∨ e = 2 ∨ e = 3 ∨ e = 4 ∨ e = 5 ∨ e = 6 ∨ e = 7 ∨ e = 8 ∨ e = 9 ∨ e = 10 ∨ e = 11 by omega) with rfl | rfl | rfl | rfl | rfl | rfl | rfl | rfl | rfl | rfl | rfl | rfl <;> (refine (vF_g rfl rfl).trans ?_; refine (vF_g rfl rfl).trans ?_; exact rfl)
theorem ps4_46_2 {D F i e p : Nat} {g : Vw} (he : e < 12) (hi : i < 3) : vFn (vM MT0 D) nb_X9_payStaff (F + 2) 4 0 [vR 46, vR 67, vI i, vR (46 + 3 + e), vI p] [] g = vFn (vM MT0 D) nb_X9_payStaff F 1 0 [vR 46, vR 67, vI (i + 1), vR (46 + 3 + e), vI p] [] (vup g (46 + 3 + e) 6 ((g (46 + 3 + e) 6 + 1) % 4294967296)) := by
  rcases (show i = 0 ∨ i = 1 ∨ i = 2 by omega) with q | q | q <;> subst q <;> rcases (show e = 0 ∨ e = 1 ∨ e = 2 ∨ e = 3 ∨ e = 4 ∨ e = 5 ∨ e = 6 ∨ e = 7 ∨ e = 8 ∨ e = 9 ∨ e = 10 ∨ e = 11 by omega) with rfl | rfl | rfl | rfl | rfl | rfl | rfl | rfl | rfl | rfl | rfl | rfl <;> (refine (vF_g rfl rfl).trans ?_; refine (vF_g rfl rfl).trans ?_; exact rfl)
theorem psL_46_2 {D : Nat} {f : Vw} (hj : 2 < f 46 3) (h8 : f 46 3 ≤ 8) (h2 : f 46 2 ≤ 12) (h3 : f 67 6 ≤ 3) (hm : ∀ i, i < f 67 6 → f 68 i < 12) : ∀ (m i F : Nat) (x3 x4 : AV) (g : Vw), i + m = f 67 6 → FrW 46 f g → ∃ g' : Vw, vFn (vM MT0 D) nb_X9_payStaff (F + 4 * m + 2) 1 0 [vR 46, vR 67, vI i, x3, x4] [] g = some ((1, 0), vW 3, g') ∧ FrW 46 f g' := by
  intro m
  induction m with
  | zero =>
    intro i F x3 x4 g hi hg
    have e6 : g 67 6 = f 67 6 := hg 67 6 (Or.inr (Or.inr (Or.inr (Or.inr ⟨2, by decide, Or.inl ⟨by decide, by decide, by decide, by decide⟩⟩))))
    rw [show F + 4 * 0 + 2 = F + 2 by omega]
    exact ⟨g, ps1g_46_2 (by omega) (by omega), hg⟩
  | succ m ih =>
    intro i F x3 x4 g hi hg
    have e6 : g 67 6 = f 67 6 := hg 67 6 (Or.inr (Or.inr (Or.inr (Or.inr ⟨2, by decide, Or.inl ⟨by decide, by decide, by decide, by decide⟩⟩))))
    have e1 : g 68 i = f 68 i := hg 68 i (Or.inr (Or.inr (Or.inr (Or.inr ⟨2, by decide, Or.inr (by decide)⟩))))
    have e2 : g 46 2 = f 46 2 := hg 46 2 (Or.inr (Or.inr (Or.inl ⟨rfl, by decide⟩)))
    have e3 : g 46 3 = f 46 3 := hg 46 3 (Or.inr (Or.inr (Or.inl ⟨rfl, by decide⟩)))
    have he := hm i (by omega)
    have he9 : f 68 i < 12 := by omega
    have hi3 : i < 3 := by omega
    rw [show F + 4 * (m + 1) + 2 = F + 4 * m + 2 + 2 + 1 + 1 by omega]
    have hs : ∃ G : Vw, vFn (vM MT0 D) nb_X9_payStaff (F + 4 * m + 2 + 2 + 1) 2 0 [vR 46, vR 67, vI i, x3, x4] [] g = vFn (vM MT0 D) nb_X9_payStaff (F + 4 * m + 2) 1 0 [vR 46, vR 67, vI (i + 1), vR (46 + 3 + f 68 i), vI (g_imul (g 67 3) (g (46 + 3 + f 68 i) 2))] [] G ∧ FrW 46 g G := by
      have hc := (show vFn (vM MT0 D) nb_X9_payStaff (F + 4 * m + 2 + 2 + 1) 2 0 [vR 46, vR 67, vI i, x3, x4] [] g = vc3 (bv (g 67 4)) (bv (g_imul (g 67 3) (g (46 + 3 + f 68 i) 2))) (vFn (vM MT0 D) nb_X9_payStaff (F + 4 * m + 2 + 2) 4 0 [vR 46, vR 67, vI i, vR (46 + 3 + f 68 i), vI (g_imul (g 67 3) (g (46 + 3 + f 68 i) 2))] [] g) (vFn (vM MT0 D) nb_X9_payStaff (F + 4 * m + 2 + 2) 3 0 [vR 46, vR 67, vI i, vR (46 + 3 + f 68 i), vI (g_imul (g 67 3) (g (46 + 3 + f 68 i) 2))] [] g) (vFn (vM MT0 D) nb_X9_payStaff (F + 4 * m + 2 + 2) 3 0 [vR 46, vR 67, vI i, vR (46 + 3 + f 68 i), vI (g_imul (g 67 3) (g (46 + 3 + f 68 i) 2))] [] g) from by
        rcases (show i = 0 ∨ i = 1 ∨ i = 2 by omega) with q | q | q
        · subst q; exact ps2_46_2_0 he9 e1
        · subst q; exact ps2_46_2_1 he9 e1
        · subst q; exact ps2_46_2_2 he9 e1)
      rcases vc3_or (u := bv (g 67 4)) (w := bv (g_imul (g 67 3) (g (46 + 3 + f 68 i) 2))) (a := vFn (vM MT0 D) nb_X9_payStaff (F + 4 * m + 2 + 2) 4 0 [vR 46, vR 67, vI i, vR (46 + 3 + f 68 i), vI (g_imul (g 67 3) (g (46 + 3 + f 68 i) 2))] [] g) (b := vFn (vM MT0 D) nb_X9_payStaff (F + 4 * m + 2 + 2) 3 0 [vR 46, vR 67, vI i, vR (46 + 3 + f 68 i), vI (g_imul (g 67 3) (g (46 + 3 + f 68 i) 2))] [] g) with q | q
      · exact ⟨_, hc.trans (q.trans (ps4_46_2 he9 hi3)), un_F (j := 2) (by omega) (by omega) (by omega)⟩
      · exact ⟨_, hc.trans (q.trans (ps3_46_2 he9 hi3)), ps_F (j := 2) (by omega) (by omega) (by omega) (by omega)⟩
    obtain ⟨G, s1, s2⟩ := hs
    obtain ⟨g', k1, k2⟩ := ih (i + 1) F (vR (46 + 3 + f 68 i)) (vI (g_imul (g 67 3) (g (46 + 3 + f 68 i) 2))) G (by omega) (frW_tr hg s2)
    exact ⟨g', (ps1l_46_2 (by omega) (by omega)).trans (s1.trans k1), k2⟩
theorem ps_46_2 {D : Nat} {f : Vw} (hj : 2 < f 46 3) (h8 : f 46 3 ≤ 8) (h2 : f 46 2 ≤ 12) (h3 : f 67 6 ≤ 3) (hm : ∀ i, i < f 67 6 → f 68 i < 12) : ∃ g, vM MT0 (D + 1) 90 [vR 46, vR 67] f = some ((1, 0), vW 3, g) ∧ FrW 46 f g := by
  obtain ⟨F, hF, go⟩ := vM_at (D := D) (y := 90) (as := [vR 46, vR 67]) (f := f) rfl rfl rfl rfl
  obtain ⟨g', k1, k2⟩ := psL_46_2 (D := D) hj h8 h2 h3 hm (f 67 6) 0 (F + 57 - 4 * f 67 6) (vW 3) (vW 3) f (by omega) frW_rf
  rw [show F + 57 - 4 * f 67 6 + 4 * f 67 6 + 2 = F + 59 by omega] at k1
  have e0 : vFn (vM MT0 D) nb_X9_payStaff (F + 60) 0 0 (iniL 5 [vR 46, vR 67]) [] f = vFn (vM MT0 D) nb_X9_payStaff (F + 59) 1 0 [vR 46, vR 67, vI 0, vW 3, vW 3] [] f := by
    refine (vF_g rfl rfl).trans ?_
    exact rfl
  exact ⟨g', go _ (e0.trans k1), k2⟩
theorem hr2_46_3_0 {D F e r : Nat} {x4 : AV} {g : Vw} (he : e < 12) (h : g 71 0 = e) : vFn (vM MT0 D) nb_X9_hearReplies (F + 1) 2 0 [vR 46, vR 70, vI r, vI 0, x4] [] g = vFn (vM MT0 D) nb_X9_hearReplies F 1 0 [vR 46, vR 70, vI ((r + g (46 + 3 + e) 2) % 4294967296), vI (0 + 1), vI e] [] (vup g (46 + 17 + 3 * 3) e ((g (46 + 17 + 3 * 3) e + 1) % 4294967296)) := by
  refine (vF_g rfl rfl).trans ?_
  refine Eq.trans (b := vB (vM MT0 D) (vFn (vM MT0 D) nb_X9_hearReplies F) hr2T hr2R 0 [vR 46, vR 70, vI r, vI 0, x4] [vI (g 71 0)] g) rfl ?_
  rw [h]
  clear h
  rcases (show e = 0 ∨ e = 1 ∨ e = 2 ∨ e = 3 ∨ e = 4 ∨ e = 5 ∨ e = 6 ∨ e = 7 ∨ e = 8 ∨ e = 9 ∨ e = 10 ∨ e = 11 by omega) with rfl | rfl | rfl | rfl | rfl | rfl | rfl | rfl | rfl | rfl | rfl | rfl <;> exact rfl
theorem ps2_46_3_0 {D F e : Nat} {x3 x4 : AV} {g : Vw} (he : e < 12) (h : g 71 0 = e) : vFn (vM MT0 D) nb_X9_payStaff (F + 1) 2 0 [vR 46, vR 70, vI 0, x3, x4] [] g = vc3 (bv (g 70 4)) (bv (g_imul (g 70 3) (g (46 + 3 + e) 2))) (vFn (vM MT0 D) nb_X9_payStaff F 4 0 [vR 46, vR 70, vI 0, vR (46 + 3 + e), vI (g_imul (g 70 3) (g (46 + 3 + e) 2))] [] g) (vFn (vM MT0 D) nb_X9_payStaff F 3 0 [vR 46, vR 70, vI 0, vR (46 + 3 + e), vI (g_imul (g 70 3) (g (46 + 3 + e) 2))] [] g) (vFn (vM MT0 D) nb_X9_payStaff F 3 0 [vR 46, vR 70, vI 0, vR (46 + 3 + e), vI (g_imul (g 70 3) (g (46 + 3 + e) 2))] [] g) := by
  refine (vF_g rfl rfl).trans ?_
  refine Eq.trans (b := vB (vM MT0 D) (vFn (vM MT0 D) nb_X9_payStaff F) ps2T ps2R 0 [vR 46, vR 70, vI 0, x3, x4] [vI (g 71 0), vR 47] g) rfl ?_
  rw [h]
  clear h
  rcases (show e = 0 ∨ e = 1 ∨ e = 2 ∨ e = 3 ∨ e = 4 ∨ e = 5 ∨ e = 6 ∨ e = 7 ∨ e = 8 ∨ e = 9 ∨ e = 10 ∨ e = 11 by omega) with rfl | rfl | rfl | rfl | rfl | rfl | rfl | rfl | rfl | rfl | rfl | rfl <;> exact rfl
theorem hr2_46_3_1 {D F e r : Nat} {x4 : AV} {g : Vw} (he : e < 12) (h : g 71 1 = e) : vFn (vM MT0 D) nb_X9_hearReplies (F + 1) 2 0 [vR 46, vR 70, vI r, vI 1, x4] [] g = vFn (vM MT0 D) nb_X9_hearReplies F 1 0 [vR 46, vR 70, vI ((r + g (46 + 3 + e) 2) % 4294967296), vI (1 + 1), vI e] [] (vup g (46 + 17 + 3 * 3) e ((g (46 + 17 + 3 * 3) e + 1) % 4294967296)) := by
  refine (vF_g rfl rfl).trans ?_
  refine Eq.trans (b := vB (vM MT0 D) (vFn (vM MT0 D) nb_X9_hearReplies F) hr2T hr2R 0 [vR 46, vR 70, vI r, vI 1, x4] [vI (g 71 1)] g) rfl ?_
  rw [h]
  clear h
  rcases (show e = 0 ∨ e = 1 ∨ e = 2 ∨ e = 3 ∨ e = 4 ∨ e = 5 ∨ e = 6 ∨ e = 7 ∨ e = 8 ∨ e = 9 ∨ e = 10 ∨ e = 11 by omega) with rfl | rfl | rfl | rfl | rfl | rfl | rfl | rfl | rfl | rfl | rfl | rfl <;> exact rfl
theorem ps2_46_3_1 {D F e : Nat} {x3 x4 : AV} {g : Vw} (he : e < 12) (h : g 71 1 = e) : vFn (vM MT0 D) nb_X9_payStaff (F + 1) 2 0 [vR 46, vR 70, vI 1, x3, x4] [] g = vc3 (bv (g 70 4)) (bv (g_imul (g 70 3) (g (46 + 3 + e) 2))) (vFn (vM MT0 D) nb_X9_payStaff F 4 0 [vR 46, vR 70, vI 1, vR (46 + 3 + e), vI (g_imul (g 70 3) (g (46 + 3 + e) 2))] [] g) (vFn (vM MT0 D) nb_X9_payStaff F 3 0 [vR 46, vR 70, vI 1, vR (46 + 3 + e), vI (g_imul (g 70 3) (g (46 + 3 + e) 2))] [] g) (vFn (vM MT0 D) nb_X9_payStaff F 3 0 [vR 46, vR 70, vI 1, vR (46 + 3 + e), vI (g_imul (g 70 3) (g (46 + 3 + e) 2))] [] g) := by
  refine (vF_g rfl rfl).trans ?_
  refine Eq.trans (b := vB (vM MT0 D) (vFn (vM MT0 D) nb_X9_payStaff F) ps2T ps2R 0 [vR 46, vR 70, vI 1, x3, x4] [vI (g 71 1), vR 47] g) rfl ?_
  rw [h]
  clear h
  rcases (show e = 0 ∨ e = 1 ∨ e = 2 ∨ e = 3 ∨ e = 4 ∨ e = 5 ∨ e = 6 ∨ e = 7 ∨ e = 8 ∨ e = 9 ∨ e = 10 ∨ e = 11 by omega) with rfl | rfl | rfl | rfl | rfl | rfl | rfl | rfl | rfl | rfl | rfl | rfl <;> exact rfl
theorem hr2_46_3_2 {D F e r : Nat} {x4 : AV} {g : Vw} (he : e < 12) (h : g 71 2 = e) : vFn (vM MT0 D) nb_X9_hearReplies (F + 1) 2 0 [vR 46, vR 70, vI r, vI 2, x4] [] g = vFn (vM MT0 D) nb_X9_hearReplies F 1 0 [vR 46, vR 70, vI ((r + g (46 + 3 + e) 2) % 4294967296), vI (2 + 1), vI e] [] (vup g (46 + 17 + 3 * 3) e ((g (46 + 17 + 3 * 3) e + 1) % 4294967296)) := by
  refine (vF_g rfl rfl).trans ?_
  refine Eq.trans (b := vB (vM MT0 D) (vFn (vM MT0 D) nb_X9_hearReplies F) hr2T hr2R 0 [vR 46, vR 70, vI r, vI 2, x4] [vI (g 71 2)] g) rfl ?_
  rw [h]
  clear h
  rcases (show e = 0 ∨ e = 1 ∨ e = 2 ∨ e = 3 ∨ e = 4 ∨ e = 5 ∨ e = 6 ∨ e = 7 ∨ e = 8 ∨ e = 9 ∨ e = 10 ∨ e = 11 by omega) with rfl | rfl | rfl | rfl | rfl | rfl | rfl | rfl | rfl | rfl | rfl | rfl <;> exact rfl
theorem ps2_46_3_2 {D F e : Nat} {x3 x4 : AV} {g : Vw} (he : e < 12) (h : g 71 2 = e) : vFn (vM MT0 D) nb_X9_payStaff (F + 1) 2 0 [vR 46, vR 70, vI 2, x3, x4] [] g = vc3 (bv (g 70 4)) (bv (g_imul (g 70 3) (g (46 + 3 + e) 2))) (vFn (vM MT0 D) nb_X9_payStaff F 4 0 [vR 46, vR 70, vI 2, vR (46 + 3 + e), vI (g_imul (g 70 3) (g (46 + 3 + e) 2))] [] g) (vFn (vM MT0 D) nb_X9_payStaff F 3 0 [vR 46, vR 70, vI 2, vR (46 + 3 + e), vI (g_imul (g 70 3) (g (46 + 3 + e) 2))] [] g) (vFn (vM MT0 D) nb_X9_payStaff F 3 0 [vR 46, vR 70, vI 2, vR (46 + 3 + e), vI (g_imul (g 70 3) (g (46 + 3 + e) 2))] [] g) := by
  refine (vF_g rfl rfl).trans ?_
  refine Eq.trans (b := vB (vM MT0 D) (vFn (vM MT0 D) nb_X9_payStaff F) ps2T ps2R 0 [vR 46, vR 70, vI 2, x3, x4] [vI (g 71 2), vR 47] g) rfl ?_
  rw [h]
  clear h
  rcases (show e = 0 ∨ e = 1 ∨ e = 2 ∨ e = 3 ∨ e = 4 ∨ e = 5 ∨ e = 6 ∨ e = 7 ∨ e = 8 ∨ e = 9 ∨ e = 10 ∨ e = 11 by omega) with rfl | rfl | rfl | rfl | rfl | rfl | rfl | rfl | rfl | rfl | rfl | rfl <;> exact rfl
theorem hr1l_46_3 {D F i r : Nat} {x4 : AV} {g : Vw} (h : i < g 70 6) (h3 : g 70 6 ≤ 3) : vFn (vM MT0 D) nb_X9_hearReplies (F + 1) 1 0 [vR 46, vR 70, vI r, vI i, x4] [] g = vFn (vM MT0 D) nb_X9_hearReplies F 2 0 [vR 46, vR 70, vI r, vI i, x4] [] g := by
  refine (vF_g rfl rfl).trans ?_
  refine (vlt (x := i) (y := g 70 6) (by omega) h).trans ?_
  exact rfl
theorem hr1g_46_3 {D F i r : Nat} {x4 : AV} {g : Vw} (h : g 70 6 ≤ i) (h3 : i ≤ 3) : vFn (vM MT0 D) nb_X9_hearReplies (F + 1) 1 0 [vR 46, vR 70, vI r, vI i, x4] [] g = vFn (vM MT0 D) nb_X9_hearReplies F 3 0 [vR 46, vR 70, vI r, vI i, x4] [] g := by
  refine (vF_g rfl rfl).trans ?_
  refine (vge2 (x := i) (y := g 70 6) (by omega) h).trans ?_
  exact rfl
theorem hr3_46_3 {D F r : Nat} {x3 x4 : AV} {g : Vw} : vFn (vM MT0 D) nb_X9_hearReplies (F + 1) 3 0 [vR 46, vR 70, vI r, x3, x4] [] g = some ((1, 0), vW 3, hrE 46 70 r g) := by
  refine (vF_g rfl rfl).trans ?_
  exact rfl
theorem hrL_46_3 {D : Nat} {f : Vw} (h3 : f 70 6 ≤ 3) (hm : ∀ i, i < f 70 6 → f 71 i < 12) : ∀ (m i r F : Nat) (x4 : AV) (g : Vw), i + m = f 70 6 → (∀ a b, a ≠ 46 + 17 + 3 * 3 → g a b = f a b) → ∃ (r' i' : Nat) (y4 : AV) (g' : Vw), vFn (vM MT0 D) nb_X9_hearReplies (F + 2 * m + 1) 1 0 [vR 46, vR 70, vI r, vI i, x4] [] g = vFn (vM MT0 D) nb_X9_hearReplies F 3 0 [vR 46, vR 70, vI r', vI i', y4] [] g' ∧ ∀ a b, a ≠ 46 + 17 + 3 * 3 → g' a b = f a b := by
  intro m
  induction m with
  | zero =>
    intro i r F x4 g hi hg
    have e6 := hg 70 6 (by decide)
    rw [show F + 2 * 0 + 1 = F + 1 by omega]
    exact ⟨r, i, x4, g, hr1g_46_3 (by omega) (by omega), hg⟩
  | succ m ih =>
    intro i r F x4 g hi hg
    have e6 := hg 70 6 (by decide)
    have e1 := hg 71 i (by decide)
    have he := hm i (by omega)
    have hs : ∀ r9 : Nat, vFn (vM MT0 D) nb_X9_hearReplies (F + 2 * m + 1 + 1) 2 0 [vR 46, vR 70, vI r, vI i, x4] [] g = vFn (vM MT0 D) nb_X9_hearReplies (F + 2 * m + 1) 1 0 [vR 46, vR 70, vI ((r + g (46 + 3 + f 71 i) 2) % 4294967296), vI (i + 1), vI (f 71 i)] [] (vup g (46 + 17 + 3 * 3) (f 71 i) ((g (46 + 17 + 3 * 3) (f 71 i) + 1) % 4294967296)) := fun _ => by
      rcases (show i = 0 ∨ i = 1 ∨ i = 2 by omega) with q | q | q
      · subst q; exact hr2_46_3_0 he e1
      · subst q; exact hr2_46_3_1 he e1
      · subst q; exact hr2_46_3_2 he e1
    obtain ⟨r', i', y4, g', k1, k2⟩ := ih (i + 1) ((r + g (46 + 3 + f 71 i) 2) % 4294967296) F (vI (f 71 i)) (vup g (46 + 17 + 3 * 3) (f 71 i) ((g (46 + 17 + 3 * 3) (f 71 i) + 1) % 4294967296)) (by omega) (fun a b h => (vup_ne (Or.inl h)).trans (hg a b h))
    refine ⟨r', i', y4, g', ?_, k2⟩
    rw [show F + 2 * (m + 1) + 1 = F + 2 * m + 1 + 1 + 1 by omega]
    exact (hr1l_46_3 (by omega) (by omega)).trans ((hs 0).trans k1)
theorem hr_46_3 {D : Nat} {f : Vw} (hj : 3 < f 46 3) (h8 : f 46 3 ≤ 8) (h2 : f 46 2 ≤ 12) (h3 : f 70 6 ≤ 3) (hm : ∀ i, i < f 70 6 → f 71 i < 12) : ∃ g, vM MT0 (D + 1) 89 [vR 46, vR 70] f = some ((1, 0), vW 3, g) ∧ FrW 46 f g := by
  obtain ⟨F, hF, go⟩ := vM_at (D := D) (y := 89) (as := [vR 46, vR 70]) (f := f) rfl rfl rfl rfl
  obtain ⟨r', i', y4, g', k1, k2⟩ := hrL_46_3 (D := D) h3 hm (f 70 6) 0 0 (F + 57 - 2 * f 70 6 + 1) (vW 3) f (by omega) (fun _ _ _ => rfl)
  rw [show F + 57 - 2 * f 70 6 + 1 + 2 * f 70 6 + 1 = F + 59 by omega] at k1
  have e0 : vFn (vM MT0 D) nb_X9_hearReplies (F + 60) 0 0 (iniL 5 [vR 46, vR 70]) [] f = vFn (vM MT0 D) nb_X9_hearReplies (F + 59) 1 0 [vR 46, vR 70, vI 0, vI 0, vW 3] [] f := by
    refine (vF_g rfl rfl).trans ?_
    exact rfl
  exact ⟨_, go _ (e0.trans (k1.trans hr3_46_3)), hr_F hj h8 k2⟩
theorem ps1l_46_3 {D F i : Nat} {x3 x4 : AV} {g : Vw} (h : i < g 70 6) (h3 : g 70 6 ≤ 3) : vFn (vM MT0 D) nb_X9_payStaff (F + 1) 1 0 [vR 46, vR 70, vI i, x3, x4] [] g = vFn (vM MT0 D) nb_X9_payStaff F 2 0 [vR 46, vR 70, vI i, x3, x4] [] g := by
  refine (vF_g rfl rfl).trans ?_
  refine (vlt (x := i) (y := g 70 6) (by omega) h).trans ?_
  exact rfl
theorem ps1g_46_3 {D F i : Nat} {x3 x4 : AV} {g : Vw} (h : g 70 6 ≤ i) (h3 : i ≤ 3) : vFn (vM MT0 D) nb_X9_payStaff (F + 2) 1 0 [vR 46, vR 70, vI i, x3, x4] [] g = some ((1, 0), vW 3, g) := by
  refine (vF_g rfl rfl).trans ?_
  refine (vge2 (x := i) (y := g 70 6) (by omega) h).trans ?_
  refine (vF_g rfl rfl).trans ?_
  exact rfl
theorem ps3_46_3 {D F i e p : Nat} {g : Vw} (he : e < 12) (hi : i < 3) : vFn (vM MT0 D) nb_X9_payStaff (F + 2) 3 0 [vR 46, vR 70, vI i, vR (46 + 3 + e), vI p] [] g = vFn (vM MT0 D) nb_X9_payStaff F 1 0 [vR 46, vR 70, vI (i + 1), vR (46 + 3 + e), vI p] [] (psE 70 (46 + 3 + e) p g) := by
  rcases (show i = 0 ∨ i = 1 ∨ i = 2 by omega) with q | q | q <;> subst q <;> rcases (show e = 0 ∨ e = 1 ∨ e = 2 ∨ e = 3 ∨ e = 4 ∨ e = 5 ∨ e = 6 ∨ e = 7 ∨ e = 8 ∨ e = 9 ∨ e = 10 ∨ e = 11 by omega) with rfl | rfl | rfl | rfl | rfl | rfl | rfl | rfl | rfl | rfl | rfl | rfl <;> (refine (vF_g rfl rfl).trans ?_; refine (vF_g rfl rfl).trans ?_; exact rfl)
theorem ps4_46_3 {D F i e p : Nat} {g : Vw} (he : e < 12) (hi : i < 3) : vFn (vM MT0 D) nb_X9_payStaff (F + 2) 4 0 [vR 46, vR 70, vI i, vR (46 + 3 + e), vI p] [] g = vFn (vM MT0 D) nb_X9_payStaff F 1 0 [vR 46, vR 70, vI (i + 1), vR (46 + 3 + e), vI p] [] (vup g (46 + 3 + e) 6 ((g (46 + 3 + e) 6 + 1) % 4294967296)) := by
  rcases (show i = 0 ∨ i = 1 ∨ i = 2 by omega) with q | q | q <;> subst q <;> rcases (show e = 0 ∨ e = 1 ∨ e = 2 ∨ e = 3 ∨ e = 4 ∨ e = 5 ∨ e = 6 ∨ e = 7 ∨ e = 8 ∨ e = 9 ∨ e = 10 ∨ e = 11 by omega) with rfl | rfl | rfl | rfl | rfl | rfl | rfl | rfl | rfl | rfl | rfl | rfl <;> (refine (vF_g rfl rfl).trans ?_; refine (vF_g rfl rfl).trans ?_; exact rfl)
theorem psL_46_3 {D : Nat} {f : Vw} (hj : 3 < f 46 3) (h8 : f 46 3 ≤ 8) (h2 : f 46 2 ≤ 12) (h3 : f 70 6 ≤ 3) (hm : ∀ i, i < f 70 6 → f 71 i < 12) : ∀ (m i F : Nat) (x3 x4 : AV) (g : Vw), i + m = f 70 6 → FrW 46 f g → ∃ g' : Vw, vFn (vM MT0 D) nb_X9_payStaff (F + 4 * m + 2) 1 0 [vR 46, vR 70, vI i, x3, x4] [] g = some ((1, 0), vW 3, g') ∧ FrW 46 f g' := by
  intro m
  induction m with
  | zero =>
    intro i F x3 x4 g hi hg
    have e6 : g 70 6 = f 70 6 := hg 70 6 (Or.inr (Or.inr (Or.inr (Or.inr ⟨3, by decide, Or.inl ⟨by decide, by decide, by decide, by decide⟩⟩))))
    rw [show F + 4 * 0 + 2 = F + 2 by omega]
    exact ⟨g, ps1g_46_3 (by omega) (by omega), hg⟩
  | succ m ih =>
    intro i F x3 x4 g hi hg
    have e6 : g 70 6 = f 70 6 := hg 70 6 (Or.inr (Or.inr (Or.inr (Or.inr ⟨3, by decide, Or.inl ⟨by decide, by decide, by decide, by decide⟩⟩))))
    have e1 : g 71 i = f 71 i := hg 71 i (Or.inr (Or.inr (Or.inr (Or.inr ⟨3, by decide, Or.inr (by decide)⟩))))
    have e2 : g 46 2 = f 46 2 := hg 46 2 (Or.inr (Or.inr (Or.inl ⟨rfl, by decide⟩)))
    have e3 : g 46 3 = f 46 3 := hg 46 3 (Or.inr (Or.inr (Or.inl ⟨rfl, by decide⟩)))
    have he := hm i (by omega)
    have he9 : f 71 i < 12 := by omega
    have hi3 : i < 3 := by omega
    rw [show F + 4 * (m + 1) + 2 = F + 4 * m + 2 + 2 + 1 + 1 by omega]
    have hs : ∃ G : Vw, vFn (vM MT0 D) nb_X9_payStaff (F + 4 * m + 2 + 2 + 1) 2 0 [vR 46, vR 70, vI i, x3, x4] [] g = vFn (vM MT0 D) nb_X9_payStaff (F + 4 * m + 2) 1 0 [vR 46, vR 70, vI (i + 1), vR (46 + 3 + f 71 i), vI (g_imul (g 70 3) (g (46 + 3 + f 71 i) 2))] [] G ∧ FrW 46 g G := by
      have hc := (show vFn (vM MT0 D) nb_X9_payStaff (F + 4 * m + 2 + 2 + 1) 2 0 [vR 46, vR 70, vI i, x3, x4] [] g = vc3 (bv (g 70 4)) (bv (g_imul (g 70 3) (g (46 + 3 + f 71 i) 2))) (vFn (vM MT0 D) nb_X9_payStaff (F + 4 * m + 2 + 2) 4 0 [vR 46, vR 70, vI i, vR (46 + 3 + f 71 i), vI (g_imul (g 70 3) (g (46 + 3 + f 71 i) 2))] [] g) (vFn (vM MT0 D) nb_X9_payStaff (F + 4 * m + 2 + 2) 3 0 [vR 46, vR 70, vI i, vR (46 + 3 + f 71 i), vI (g_imul (g 70 3) (g (46 + 3 + f 71 i) 2))] [] g) (vFn (vM MT0 D) nb_X9_payStaff (F + 4 * m + 2 + 2) 3 0 [vR 46, vR 70, vI i, vR (46 + 3 + f 71 i), vI (g_imul (g 70 3) (g (46 + 3 + f 71 i) 2))] [] g) from by
        rcases (show i = 0 ∨ i = 1 ∨ i = 2 by omega) with q | q | q
        · subst q; exact ps2_46_3_0 he9 e1
        · subst q; exact ps2_46_3_1 he9 e1
        · subst q; exact ps2_46_3_2 he9 e1)
      rcases vc3_or (u := bv (g 70 4)) (w := bv (g_imul (g 70 3) (g (46 + 3 + f 71 i) 2))) (a := vFn (vM MT0 D) nb_X9_payStaff (F + 4 * m + 2 + 2) 4 0 [vR 46, vR 70, vI i, vR (46 + 3 + f 71 i), vI (g_imul (g 70 3) (g (46 + 3 + f 71 i) 2))] [] g) (b := vFn (vM MT0 D) nb_X9_payStaff (F + 4 * m + 2 + 2) 3 0 [vR 46, vR 70, vI i, vR (46 + 3 + f 71 i), vI (g_imul (g 70 3) (g (46 + 3 + f 71 i) 2))] [] g) with q | q
      · exact ⟨_, hc.trans (q.trans (ps4_46_3 he9 hi3)), un_F (j := 3) (by omega) (by omega) (by omega)⟩
      · exact ⟨_, hc.trans (q.trans (ps3_46_3 he9 hi3)), ps_F (j := 3) (by omega) (by omega) (by omega) (by omega)⟩
    obtain ⟨G, s1, s2⟩ := hs
    obtain ⟨g', k1, k2⟩ := ih (i + 1) F (vR (46 + 3 + f 71 i)) (vI (g_imul (g 70 3) (g (46 + 3 + f 71 i) 2))) G (by omega) (frW_tr hg s2)
    exact ⟨g', (ps1l_46_3 (by omega) (by omega)).trans (s1.trans k1), k2⟩
theorem ps_46_3 {D : Nat} {f : Vw} (hj : 3 < f 46 3) (h8 : f 46 3 ≤ 8) (h2 : f 46 2 ≤ 12) (h3 : f 70 6 ≤ 3) (hm : ∀ i, i < f 70 6 → f 71 i < 12) : ∃ g, vM MT0 (D + 1) 90 [vR 46, vR 70] f = some ((1, 0), vW 3, g) ∧ FrW 46 f g := by
  obtain ⟨F, hF, go⟩ := vM_at (D := D) (y := 90) (as := [vR 46, vR 70]) (f := f) rfl rfl rfl rfl
  obtain ⟨g', k1, k2⟩ := psL_46_3 (D := D) hj h8 h2 h3 hm (f 70 6) 0 (F + 57 - 4 * f 70 6) (vW 3) (vW 3) f (by omega) frW_rf
  rw [show F + 57 - 4 * f 70 6 + 4 * f 70 6 + 2 = F + 59 by omega] at k1
  have e0 : vFn (vM MT0 D) nb_X9_payStaff (F + 60) 0 0 (iniL 5 [vR 46, vR 70]) [] f = vFn (vM MT0 D) nb_X9_payStaff (F + 59) 1 0 [vR 46, vR 70, vI 0, vW 3, vW 3] [] f := by
    refine (vF_g rfl rfl).trans ?_
    exact rfl
  exact ⟨g', go _ (e0.trans k1), k2⟩
theorem hr2_46_4_0 {D F e r : Nat} {x4 : AV} {g : Vw} (he : e < 12) (h : g 74 0 = e) : vFn (vM MT0 D) nb_X9_hearReplies (F + 1) 2 0 [vR 46, vR 73, vI r, vI 0, x4] [] g = vFn (vM MT0 D) nb_X9_hearReplies F 1 0 [vR 46, vR 73, vI ((r + g (46 + 3 + e) 2) % 4294967296), vI (0 + 1), vI e] [] (vup g (46 + 17 + 3 * 4) e ((g (46 + 17 + 3 * 4) e + 1) % 4294967296)) := by
  refine (vF_g rfl rfl).trans ?_
  refine Eq.trans (b := vB (vM MT0 D) (vFn (vM MT0 D) nb_X9_hearReplies F) hr2T hr2R 0 [vR 46, vR 73, vI r, vI 0, x4] [vI (g 74 0)] g) rfl ?_
  rw [h]
  clear h
  rcases (show e = 0 ∨ e = 1 ∨ e = 2 ∨ e = 3 ∨ e = 4 ∨ e = 5 ∨ e = 6 ∨ e = 7 ∨ e = 8 ∨ e = 9 ∨ e = 10 ∨ e = 11 by omega) with rfl | rfl | rfl | rfl | rfl | rfl | rfl | rfl | rfl | rfl | rfl | rfl <;> exact rfl
theorem ps2_46_4_0 {D F e : Nat} {x3 x4 : AV} {g : Vw} (he : e < 12) (h : g 74 0 = e) : vFn (vM MT0 D) nb_X9_payStaff (F + 1) 2 0 [vR 46, vR 73, vI 0, x3, x4] [] g = vc3 (bv (g 73 4)) (bv (g_imul (g 73 3) (g (46 + 3 + e) 2))) (vFn (vM MT0 D) nb_X9_payStaff F 4 0 [vR 46, vR 73, vI 0, vR (46 + 3 + e), vI (g_imul (g 73 3) (g (46 + 3 + e) 2))] [] g) (vFn (vM MT0 D) nb_X9_payStaff F 3 0 [vR 46, vR 73, vI 0, vR (46 + 3 + e), vI (g_imul (g 73 3) (g (46 + 3 + e) 2))] [] g) (vFn (vM MT0 D) nb_X9_payStaff F 3 0 [vR 46, vR 73, vI 0, vR (46 + 3 + e), vI (g_imul (g 73 3) (g (46 + 3 + e) 2))] [] g) := by
  refine (vF_g rfl rfl).trans ?_
  refine Eq.trans (b := vB (vM MT0 D) (vFn (vM MT0 D) nb_X9_payStaff F) ps2T ps2R 0 [vR 46, vR 73, vI 0, x3, x4] [vI (g 74 0), vR 47] g) rfl ?_
  rw [h]
  clear h
  rcases (show e = 0 ∨ e = 1 ∨ e = 2 ∨ e = 3 ∨ e = 4 ∨ e = 5 ∨ e = 6 ∨ e = 7 ∨ e = 8 ∨ e = 9 ∨ e = 10 ∨ e = 11 by omega) with rfl | rfl | rfl | rfl | rfl | rfl | rfl | rfl | rfl | rfl | rfl | rfl <;> exact rfl
theorem hr2_46_4_1 {D F e r : Nat} {x4 : AV} {g : Vw} (he : e < 12) (h : g 74 1 = e) : vFn (vM MT0 D) nb_X9_hearReplies (F + 1) 2 0 [vR 46, vR 73, vI r, vI 1, x4] [] g = vFn (vM MT0 D) nb_X9_hearReplies F 1 0 [vR 46, vR 73, vI ((r + g (46 + 3 + e) 2) % 4294967296), vI (1 + 1), vI e] [] (vup g (46 + 17 + 3 * 4) e ((g (46 + 17 + 3 * 4) e + 1) % 4294967296)) := by
  refine (vF_g rfl rfl).trans ?_
  refine Eq.trans (b := vB (vM MT0 D) (vFn (vM MT0 D) nb_X9_hearReplies F) hr2T hr2R 0 [vR 46, vR 73, vI r, vI 1, x4] [vI (g 74 1)] g) rfl ?_
  rw [h]
  clear h
  rcases (show e = 0 ∨ e = 1 ∨ e = 2 ∨ e = 3 ∨ e = 4 ∨ e = 5 ∨ e = 6 ∨ e = 7 ∨ e = 8 ∨ e = 9 ∨ e = 10 ∨ e = 11 by omega) with rfl | rfl | rfl | rfl | rfl | rfl | rfl | rfl | rfl | rfl | rfl | rfl <;> exact rfl
theorem ps2_46_4_1 {D F e : Nat} {x3 x4 : AV} {g : Vw} (he : e < 12) (h : g 74 1 = e) : vFn (vM MT0 D) nb_X9_payStaff (F + 1) 2 0 [vR 46, vR 73, vI 1, x3, x4] [] g = vc3 (bv (g 73 4)) (bv (g_imul (g 73 3) (g (46 + 3 + e) 2))) (vFn (vM MT0 D) nb_X9_payStaff F 4 0 [vR 46, vR 73, vI 1, vR (46 + 3 + e), vI (g_imul (g 73 3) (g (46 + 3 + e) 2))] [] g) (vFn (vM MT0 D) nb_X9_payStaff F 3 0 [vR 46, vR 73, vI 1, vR (46 + 3 + e), vI (g_imul (g 73 3) (g (46 + 3 + e) 2))] [] g) (vFn (vM MT0 D) nb_X9_payStaff F 3 0 [vR 46, vR 73, vI 1, vR (46 + 3 + e), vI (g_imul (g 73 3) (g (46 + 3 + e) 2))] [] g) := by
  refine (vF_g rfl rfl).trans ?_
  refine Eq.trans (b := vB (vM MT0 D) (vFn (vM MT0 D) nb_X9_payStaff F) ps2T ps2R 0 [vR 46, vR 73, vI 1, x3, x4] [vI (g 74 1), vR 47] g) rfl ?_
  rw [h]
  clear h
  rcases (show e = 0 ∨ e = 1 ∨ e = 2 ∨ e = 3 ∨ e = 4 ∨ e = 5 ∨ e = 6 ∨ e = 7 ∨ e = 8 ∨ e = 9 ∨ e = 10 ∨ e = 11 by omega) with rfl | rfl | rfl | rfl | rfl | rfl | rfl | rfl | rfl | rfl | rfl | rfl <;> exact rfl
theorem hr2_46_4_2 {D F e r : Nat} {x4 : AV} {g : Vw} (he : e < 12) (h : g 74 2 = e) : vFn (vM MT0 D) nb_X9_hearReplies (F + 1) 2 0 [vR 46, vR 73, vI r, vI 2, x4] [] g = vFn (vM MT0 D) nb_X9_hearReplies F 1 0 [vR 46, vR 73, vI ((r + g (46 + 3 + e) 2) % 4294967296), vI (2 + 1), vI e] [] (vup g (46 + 17 + 3 * 4) e ((g (46 + 17 + 3 * 4) e + 1) % 4294967296)) := by
  refine (vF_g rfl rfl).trans ?_
  refine Eq.trans (b := vB (vM MT0 D) (vFn (vM MT0 D) nb_X9_hearReplies F) hr2T hr2R 0 [vR 46, vR 73, vI r, vI 2, x4] [vI (g 74 2)] g) rfl ?_
  rw [h]
  clear h
  rcases (show e = 0 ∨ e = 1 ∨ e = 2 ∨ e = 3 ∨ e = 4 ∨ e = 5 ∨ e = 6 ∨ e = 7 ∨ e = 8 ∨ e = 9 ∨ e = 10 ∨ e = 11 by omega) with rfl | rfl | rfl | rfl | rfl | rfl | rfl | rfl | rfl | rfl | rfl | rfl <;> exact rfl
theorem ps2_46_4_2 {D F e : Nat} {x3 x4 : AV} {g : Vw} (he : e < 12) (h : g 74 2 = e) : vFn (vM MT0 D) nb_X9_payStaff (F + 1) 2 0 [vR 46, vR 73, vI 2, x3, x4] [] g = vc3 (bv (g 73 4)) (bv (g_imul (g 73 3) (g (46 + 3 + e) 2))) (vFn (vM MT0 D) nb_X9_payStaff F 4 0 [vR 46, vR 73, vI 2, vR (46 + 3 + e), vI (g_imul (g 73 3) (g (46 + 3 + e) 2))] [] g) (vFn (vM MT0 D) nb_X9_payStaff F 3 0 [vR 46, vR 73, vI 2, vR (46 + 3 + e), vI (g_imul (g 73 3) (g (46 + 3 + e) 2))] [] g) (vFn (vM MT0 D) nb_X9_payStaff F 3 0 [vR 46, vR 73, vI 2, vR (46 + 3 + e), vI (g_imul (g 73 3) (g (46 + 3 + e) 2))] [] g) := by
  refine (vF_g rfl rfl).trans ?_
  refine Eq.trans (b := vB (vM MT0 D) (vFn (vM MT0 D) nb_X9_payStaff F) ps2T ps2R 0 [vR 46, vR 73, vI 2, x3, x4] [vI (g 74 2), vR 47] g) rfl ?_
  rw [h]
  clear h
  rcases (show e = 0 ∨ e = 1 ∨ e = 2 ∨ e = 3 ∨ e = 4 ∨ e = 5 ∨ e = 6 ∨ e = 7 ∨ e = 8 ∨ e = 9 ∨ e = 10 ∨ e = 11 by omega) with rfl | rfl | rfl | rfl | rfl | rfl | rfl | rfl | rfl | rfl | rfl | rfl <;> exact rfl
theorem hr1l_46_4 {D F i r : Nat} {x4 : AV} {g : Vw} (h : i < g 73 6) (h3 : g 73 6 ≤ 3) : vFn (vM MT0 D) nb_X9_hearReplies (F + 1) 1 0 [vR 46, vR 73, vI r, vI i, x4] [] g = vFn (vM MT0 D) nb_X9_hearReplies F 2 0 [vR 46, vR 73, vI r, vI i, x4] [] g := by
  refine (vF_g rfl rfl).trans ?_
  refine (vlt (x := i) (y := g 73 6) (by omega) h).trans ?_
  exact rfl
theorem hr1g_46_4 {D F i r : Nat} {x4 : AV} {g : Vw} (h : g 73 6 ≤ i) (h3 : i ≤ 3) : vFn (vM MT0 D) nb_X9_hearReplies (F + 1) 1 0 [vR 46, vR 73, vI r, vI i, x4] [] g = vFn (vM MT0 D) nb_X9_hearReplies F 3 0 [vR 46, vR 73, vI r, vI i, x4] [] g := by
  refine (vF_g rfl rfl).trans ?_
  refine (vge2 (x := i) (y := g 73 6) (by omega) h).trans ?_
  exact rfl
theorem hr3_46_4 {D F r : Nat} {x3 x4 : AV} {g : Vw} : vFn (vM MT0 D) nb_X9_hearReplies (F + 1) 3 0 [vR 46, vR 73, vI r, x3, x4] [] g = some ((1, 0), vW 3, hrE 46 73 r g) := by
  refine (vF_g rfl rfl).trans ?_
  exact rfl
theorem hrL_46_4 {D : Nat} {f : Vw} (h3 : f 73 6 ≤ 3) (hm : ∀ i, i < f 73 6 → f 74 i < 12) : ∀ (m i r F : Nat) (x4 : AV) (g : Vw), i + m = f 73 6 → (∀ a b, a ≠ 46 + 17 + 3 * 4 → g a b = f a b) → ∃ (r' i' : Nat) (y4 : AV) (g' : Vw), vFn (vM MT0 D) nb_X9_hearReplies (F + 2 * m + 1) 1 0 [vR 46, vR 73, vI r, vI i, x4] [] g = vFn (vM MT0 D) nb_X9_hearReplies F 3 0 [vR 46, vR 73, vI r', vI i', y4] [] g' ∧ ∀ a b, a ≠ 46 + 17 + 3 * 4 → g' a b = f a b := by
  intro m
  induction m with
  | zero =>
    intro i r F x4 g hi hg
    have e6 := hg 73 6 (by decide)
    rw [show F + 2 * 0 + 1 = F + 1 by omega]
    exact ⟨r, i, x4, g, hr1g_46_4 (by omega) (by omega), hg⟩
  | succ m ih =>
    intro i r F x4 g hi hg
    have e6 := hg 73 6 (by decide)
    have e1 := hg 74 i (by decide)
    have he := hm i (by omega)
    have hs : ∀ r9 : Nat, vFn (vM MT0 D) nb_X9_hearReplies (F + 2 * m + 1 + 1) 2 0 [vR 46, vR 73, vI r, vI i, x4] [] g = vFn (vM MT0 D) nb_X9_hearReplies (F + 2 * m + 1) 1 0 [vR 46, vR 73, vI ((r + g (46 + 3 + f 74 i) 2) % 4294967296), vI (i + 1), vI (f 74 i)] [] (vup g (46 + 17 + 3 * 4) (f 74 i) ((g (46 + 17 + 3 * 4) (f 74 i) + 1) % 4294967296)) := fun _ => by
      rcases (show i = 0 ∨ i = 1 ∨ i = 2 by omega) with q | q | q
      · subst q; exact hr2_46_4_0 he e1
      · subst q; exact hr2_46_4_1 he e1
      · subst q; exact hr2_46_4_2 he e1
    obtain ⟨r', i', y4, g', k1, k2⟩ := ih (i + 1) ((r + g (46 + 3 + f 74 i) 2) % 4294967296) F (vI (f 74 i)) (vup g (46 + 17 + 3 * 4) (f 74 i) ((g (46 + 17 + 3 * 4) (f 74 i) + 1) % 4294967296)) (by omega) (fun a b h => (vup_ne (Or.inl h)).trans (hg a b h))
    refine ⟨r', i', y4, g', ?_, k2⟩
    rw [show F + 2 * (m + 1) + 1 = F + 2 * m + 1 + 1 + 1 by omega]
    exact (hr1l_46_4 (by omega) (by omega)).trans ((hs 0).trans k1)
theorem hr_46_4 {D : Nat} {f : Vw} (hj : 4 < f 46 3) (h8 : f 46 3 ≤ 8) (h2 : f 46 2 ≤ 12) (h3 : f 73 6 ≤ 3) (hm : ∀ i, i < f 73 6 → f 74 i < 12) : ∃ g, vM MT0 (D + 1) 89 [vR 46, vR 73] f = some ((1, 0), vW 3, g) ∧ FrW 46 f g := by
  obtain ⟨F, hF, go⟩ := vM_at (D := D) (y := 89) (as := [vR 46, vR 73]) (f := f) rfl rfl rfl rfl
  obtain ⟨r', i', y4, g', k1, k2⟩ := hrL_46_4 (D := D) h3 hm (f 73 6) 0 0 (F + 57 - 2 * f 73 6 + 1) (vW 3) f (by omega) (fun _ _ _ => rfl)
  rw [show F + 57 - 2 * f 73 6 + 1 + 2 * f 73 6 + 1 = F + 59 by omega] at k1
  have e0 : vFn (vM MT0 D) nb_X9_hearReplies (F + 60) 0 0 (iniL 5 [vR 46, vR 73]) [] f = vFn (vM MT0 D) nb_X9_hearReplies (F + 59) 1 0 [vR 46, vR 73, vI 0, vI 0, vW 3] [] f := by
    refine (vF_g rfl rfl).trans ?_
    exact rfl
  exact ⟨_, go _ (e0.trans (k1.trans hr3_46_4)), hr_F hj h8 k2⟩
theorem ps1l_46_4 {D F i : Nat} {x3 x4 : AV} {g : Vw} (h : i < g 73 6) (h3 : g 73 6 ≤ 3) : vFn (vM MT0 D) nb_X9_payStaff (F + 1) 1 0 [vR 46, vR 73, vI i, x3, x4] [] g = vFn (vM MT0 D) nb_X9_payStaff F 2 0 [vR 46, vR 73, vI i, x3, x4] [] g := by
  refine (vF_g rfl rfl).trans ?_
  refine (vlt (x := i) (y := g 73 6) (by omega) h).trans ?_
  exact rfl
theorem ps1g_46_4 {D F i : Nat} {x3 x4 : AV} {g : Vw} (h : g 73 6 ≤ i) (h3 : i ≤ 3) : vFn (vM MT0 D) nb_X9_payStaff (F + 2) 1 0 [vR 46, vR 73, vI i, x3, x4] [] g = some ((1, 0), vW 3, g) := by
  refine (vF_g rfl rfl).trans ?_
  refine (vge2 (x := i) (y := g 73 6) (by omega) h).trans ?_
  refine (vF_g rfl rfl).trans ?_
  exact rfl
theorem ps3_46_4 {D F i e p : Nat} {g : Vw} (he : e < 12) (hi : i < 3) : vFn (vM MT0 D) nb_X9_payStaff (F + 2) 3 0 [vR 46, vR 73, vI i, vR (46 + 3 + e), vI p] [] g = vFn (vM MT0 D) nb_X9_payStaff F 1 0 [vR 46, vR 73, vI (i + 1), vR (46 + 3 + e), vI p] [] (psE 73 (46 + 3 + e) p g) := by
  rcases (show i = 0 ∨ i = 1 ∨ i = 2 by omega) with q | q | q <;> subst q <;> rcases (show e = 0 ∨ e = 1 ∨ e = 2 ∨ e = 3 ∨ e = 4 ∨ e = 5 ∨ e = 6 ∨ e = 7 ∨ e = 8 ∨ e = 9 ∨ e = 10 ∨ e = 11 by omega) with rfl | rfl | rfl | rfl | rfl | rfl | rfl | rfl | rfl | rfl | rfl | rfl <;> (refine (vF_g rfl rfl).trans ?_; refine (vF_g rfl rfl).trans ?_; exact rfl)
theorem ps4_46_4 {D F i e p : Nat} {g : Vw} (he : e < 12) (hi : i < 3) : vFn (vM MT0 D) nb_X9_payStaff (F + 2) 4 0 [vR 46, vR 73, vI i, vR (46 + 3 + e), vI p] [] g = vFn (vM MT0 D) nb_X9_payStaff F 1 0 [vR 46, vR 73, vI (i + 1), vR (46 + 3 + e), vI p] [] (vup g (46 + 3 + e) 6 ((g (46 + 3 + e) 6 + 1) % 4294967296)) := by
  rcases (show i = 0 ∨ i = 1 ∨ i = 2 by omega) with q | q | q <;> subst q <;> rcases (show e = 0 ∨ e = 1 ∨ e = 2 ∨ e = 3 ∨ e = 4 ∨ e = 5 ∨ e = 6 ∨ e = 7 ∨ e = 8 ∨ e = 9 ∨ e = 10 ∨ e = 11 by omega) with rfl | rfl | rfl | rfl | rfl | rfl | rfl | rfl | rfl | rfl | rfl | rfl <;> (refine (vF_g rfl rfl).trans ?_; refine (vF_g rfl rfl).trans ?_; exact rfl)
theorem psL_46_4 {D : Nat} {f : Vw} (hj : 4 < f 46 3) (h8 : f 46 3 ≤ 8) (h2 : f 46 2 ≤ 12) (h3 : f 73 6 ≤ 3) (hm : ∀ i, i < f 73 6 → f 74 i < 12) : ∀ (m i F : Nat) (x3 x4 : AV) (g : Vw), i + m = f 73 6 → FrW 46 f g → ∃ g' : Vw, vFn (vM MT0 D) nb_X9_payStaff (F + 4 * m + 2) 1 0 [vR 46, vR 73, vI i, x3, x4] [] g = some ((1, 0), vW 3, g') ∧ FrW 46 f g' := by
  intro m
  induction m with
  | zero =>
    intro i F x3 x4 g hi hg
    have e6 : g 73 6 = f 73 6 := hg 73 6 (Or.inr (Or.inr (Or.inr (Or.inr ⟨4, by decide, Or.inl ⟨by decide, by decide, by decide, by decide⟩⟩))))
    rw [show F + 4 * 0 + 2 = F + 2 by omega]
    exact ⟨g, ps1g_46_4 (by omega) (by omega), hg⟩
  | succ m ih =>
    intro i F x3 x4 g hi hg
    have e6 : g 73 6 = f 73 6 := hg 73 6 (Or.inr (Or.inr (Or.inr (Or.inr ⟨4, by decide, Or.inl ⟨by decide, by decide, by decide, by decide⟩⟩))))
    have e1 : g 74 i = f 74 i := hg 74 i (Or.inr (Or.inr (Or.inr (Or.inr ⟨4, by decide, Or.inr (by decide)⟩))))
    have e2 : g 46 2 = f 46 2 := hg 46 2 (Or.inr (Or.inr (Or.inl ⟨rfl, by decide⟩)))
    have e3 : g 46 3 = f 46 3 := hg 46 3 (Or.inr (Or.inr (Or.inl ⟨rfl, by decide⟩)))
    have he := hm i (by omega)
    have he9 : f 74 i < 12 := by omega
    have hi3 : i < 3 := by omega
    rw [show F + 4 * (m + 1) + 2 = F + 4 * m + 2 + 2 + 1 + 1 by omega]
    have hs : ∃ G : Vw, vFn (vM MT0 D) nb_X9_payStaff (F + 4 * m + 2 + 2 + 1) 2 0 [vR 46, vR 73, vI i, x3, x4] [] g = vFn (vM MT0 D) nb_X9_payStaff (F + 4 * m + 2) 1 0 [vR 46, vR 73, vI (i + 1), vR (46 + 3 + f 74 i), vI (g_imul (g 73 3) (g (46 + 3 + f 74 i) 2))] [] G ∧ FrW 46 g G := by
      have hc := (show vFn (vM MT0 D) nb_X9_payStaff (F + 4 * m + 2 + 2 + 1) 2 0 [vR 46, vR 73, vI i, x3, x4] [] g = vc3 (bv (g 73 4)) (bv (g_imul (g 73 3) (g (46 + 3 + f 74 i) 2))) (vFn (vM MT0 D) nb_X9_payStaff (F + 4 * m + 2 + 2) 4 0 [vR 46, vR 73, vI i, vR (46 + 3 + f 74 i), vI (g_imul (g 73 3) (g (46 + 3 + f 74 i) 2))] [] g) (vFn (vM MT0 D) nb_X9_payStaff (F + 4 * m + 2 + 2) 3 0 [vR 46, vR 73, vI i, vR (46 + 3 + f 74 i), vI (g_imul (g 73 3) (g (46 + 3 + f 74 i) 2))] [] g) (vFn (vM MT0 D) nb_X9_payStaff (F + 4 * m + 2 + 2) 3 0 [vR 46, vR 73, vI i, vR (46 + 3 + f 74 i), vI (g_imul (g 73 3) (g (46 + 3 + f 74 i) 2))] [] g) from by
        rcases (show i = 0 ∨ i = 1 ∨ i = 2 by omega) with q | q | q
        · subst q; exact ps2_46_4_0 he9 e1
        · subst q; exact ps2_46_4_1 he9 e1
        · subst q; exact ps2_46_4_2 he9 e1)
      rcases vc3_or (u := bv (g 73 4)) (w := bv (g_imul (g 73 3) (g (46 + 3 + f 74 i) 2))) (a := vFn (vM MT0 D) nb_X9_payStaff (F + 4 * m + 2 + 2) 4 0 [vR 46, vR 73, vI i, vR (46 + 3 + f 74 i), vI (g_imul (g 73 3) (g (46 + 3 + f 74 i) 2))] [] g) (b := vFn (vM MT0 D) nb_X9_payStaff (F + 4 * m + 2 + 2) 3 0 [vR 46, vR 73, vI i, vR (46 + 3 + f 74 i), vI (g_imul (g 73 3) (g (46 + 3 + f 74 i) 2))] [] g) with q | q
      · exact ⟨_, hc.trans (q.trans (ps4_46_4 he9 hi3)), un_F (j := 4) (by omega) (by omega) (by omega)⟩
      · exact ⟨_, hc.trans (q.trans (ps3_46_4 he9 hi3)), ps_F (j := 4) (by omega) (by omega) (by omega) (by omega)⟩
    obtain ⟨G, s1, s2⟩ := hs
    obtain ⟨g', k1, k2⟩ := ih (i + 1) F (vR (46 + 3 + f 74 i)) (vI (g_imul (g 73 3) (g (46 + 3 + f 74 i) 2))) G (by omega) (frW_tr hg s2)
    exact ⟨g', (ps1l_46_4 (by omega) (by omega)).trans (s1.trans k1), k2⟩
theorem ps_46_4 {D : Nat} {f : Vw} (hj : 4 < f 46 3) (h8 : f 46 3 ≤ 8) (h2 : f 46 2 ≤ 12) (h3 : f 73 6 ≤ 3) (hm : ∀ i, i < f 73 6 → f 74 i < 12) : ∃ g, vM MT0 (D + 1) 90 [vR 46, vR 73] f = some ((1, 0), vW 3, g) ∧ FrW 46 f g := by
  obtain ⟨F, hF, go⟩ := vM_at (D := D) (y := 90) (as := [vR 46, vR 73]) (f := f) rfl rfl rfl rfl
  obtain ⟨g', k1, k2⟩ := psL_46_4 (D := D) hj h8 h2 h3 hm (f 73 6) 0 (F + 57 - 4 * f 73 6) (vW 3) (vW 3) f (by omega) frW_rf
  rw [show F + 57 - 4 * f 73 6 + 4 * f 73 6 + 2 = F + 59 by omega] at k1
  have e0 : vFn (vM MT0 D) nb_X9_payStaff (F + 60) 0 0 (iniL 5 [vR 46, vR 73]) [] f = vFn (vM MT0 D) nb_X9_payStaff (F + 59) 1 0 [vR 46, vR 73, vI 0, vW 3, vW 3] [] f := by
    refine (vF_g rfl rfl).trans ?_
    exact rfl
  exact ⟨g', go _ (e0.trans k1), k2⟩
theorem hr2_46_5_0 {D F e r : Nat} {x4 : AV} {g : Vw} (he : e < 12) (h : g 77 0 = e) : vFn (vM MT0 D) nb_X9_hearReplies (F + 1) 2 0 [vR 46, vR 76, vI r, vI 0, x4] [] g = vFn (vM MT0 D) nb_X9_hearReplies F 1 0 [vR 46, vR 76, vI ((r + g (46 + 3 + e) 2) % 4294967296), vI (0 + 1), vI e] [] (vup g (46 + 17 + 3 * 5) e ((g (46 + 17 + 3 * 5) e + 1) % 4294967296)) := by
  refine (vF_g rfl rfl).trans ?_
  refine Eq.trans (b := vB (vM MT0 D) (vFn (vM MT0 D) nb_X9_hearReplies F) hr2T hr2R 0 [vR 46, vR 76, vI r, vI 0, x4] [vI (g 77 0)] g) rfl ?_
  rw [h]
  clear h
  rcases (show e = 0 ∨ e = 1 ∨ e = 2 ∨ e = 3 ∨ e = 4 ∨ e = 5 ∨ e = 6 ∨ e = 7 ∨ e = 8 ∨ e = 9 ∨ e = 10 ∨ e = 11 by omega) with rfl | rfl | rfl | rfl | rfl | rfl | rfl | rfl | rfl | rfl | rfl | rfl <;> exact rfl
theorem ps2_46_5_0 {D F e : Nat} {x3 x4 : AV} {g : Vw} (he : e < 12) (h : g 77 0 = e) : vFn (vM MT0 D) nb_X9_payStaff (F + 1) 2 0 [vR 46, vR 76, vI 0, x3, x4] [] g = vc3 (bv (g 76 4)) (bv (g_imul (g 76 3) (g (46 + 3 + e) 2))) (vFn (vM MT0 D) nb_X9_payStaff F 4 0 [vR 46, vR 76, vI 0, vR (46 + 3 + e), vI (g_imul (g 76 3) (g (46 + 3 + e) 2))] [] g) (vFn (vM MT0 D) nb_X9_payStaff F 3 0 [vR 46, vR 76, vI 0, vR (46 + 3 + e), vI (g_imul (g 76 3) (g (46 + 3 + e) 2))] [] g) (vFn (vM MT0 D) nb_X9_payStaff F 3 0 [vR 46, vR 76, vI 0, vR (46 + 3 + e), vI (g_imul (g 76 3) (g (46 + 3 + e) 2))] [] g) := by
  refine (vF_g rfl rfl).trans ?_
  refine Eq.trans (b := vB (vM MT0 D) (vFn (vM MT0 D) nb_X9_payStaff F) ps2T ps2R 0 [vR 46, vR 76, vI 0, x3, x4] [vI (g 77 0), vR 47] g) rfl ?_
  rw [h]
  clear h
  rcases (show e = 0 ∨ e = 1 ∨ e = 2 ∨ e = 3 ∨ e = 4 ∨ e = 5 ∨ e = 6 ∨ e = 7 ∨ e = 8 ∨ e = 9 ∨ e = 10 ∨ e = 11 by omega) with rfl | rfl | rfl | rfl | rfl | rfl | rfl | rfl | rfl | rfl | rfl | rfl <;> exact rfl
theorem hr2_46_5_1 {D F e r : Nat} {x4 : AV} {g : Vw} (he : e < 12) (h : g 77 1 = e) : vFn (vM MT0 D) nb_X9_hearReplies (F + 1) 2 0 [vR 46, vR 76, vI r, vI 1, x4] [] g = vFn (vM MT0 D) nb_X9_hearReplies F 1 0 [vR 46, vR 76, vI ((r + g (46 + 3 + e) 2) % 4294967296), vI (1 + 1), vI e] [] (vup g (46 + 17 + 3 * 5) e ((g (46 + 17 + 3 * 5) e + 1) % 4294967296)) := by
  refine (vF_g rfl rfl).trans ?_
  refine Eq.trans (b := vB (vM MT0 D) (vFn (vM MT0 D) nb_X9_hearReplies F) hr2T hr2R 0 [vR 46, vR 76, vI r, vI 1, x4] [vI (g 77 1)] g) rfl ?_
  rw [h]
  clear h
  rcases (show e = 0 ∨ e = 1 ∨ e = 2 ∨ e = 3 ∨ e = 4 ∨ e = 5 ∨ e = 6 ∨ e = 7 ∨ e = 8 ∨ e = 9 ∨ e = 10 ∨ e = 11 by omega) with rfl | rfl | rfl | rfl | rfl | rfl | rfl | rfl | rfl | rfl | rfl | rfl <;> exact rfl
theorem ps2_46_5_1 {D F e : Nat} {x3 x4 : AV} {g : Vw} (he : e < 12) (h : g 77 1 = e) : vFn (vM MT0 D) nb_X9_payStaff (F + 1) 2 0 [vR 46, vR 76, vI 1, x3, x4] [] g = vc3 (bv (g 76 4)) (bv (g_imul (g 76 3) (g (46 + 3 + e) 2))) (vFn (vM MT0 D) nb_X9_payStaff F 4 0 [vR 46, vR 76, vI 1, vR (46 + 3 + e), vI (g_imul (g 76 3) (g (46 + 3 + e) 2))] [] g) (vFn (vM MT0 D) nb_X9_payStaff F 3 0 [vR 46, vR 76, vI 1, vR (46 + 3 + e), vI (g_imul (g 76 3) (g (46 + 3 + e) 2))] [] g) (vFn (vM MT0 D) nb_X9_payStaff F 3 0 [vR 46, vR 76, vI 1, vR (46 + 3 + e), vI (g_imul (g 76 3) (g (46 + 3 + e) 2))] [] g) := by
  refine (vF_g rfl rfl).trans ?_
  refine Eq.trans (b := vB (vM MT0 D) (vFn (vM MT0 D) nb_X9_payStaff F) ps2T ps2R 0 [vR 46, vR 76, vI 1, x3, x4] [vI (g 77 1), vR 47] g) rfl ?_
  rw [h]
  clear h
  rcases (show e = 0 ∨ e = 1 ∨ e = 2 ∨ e = 3 ∨ e = 4 ∨ e = 5 ∨ e = 6 ∨ e = 7 ∨ e = 8 ∨ e = 9 ∨ e = 10 ∨ e = 11 by omega) with rfl | rfl | rfl | rfl | rfl | rfl | rfl | rfl | rfl | rfl | rfl | rfl <;> exact rfl
theorem hr2_46_5_2 {D F e r : Nat} {x4 : AV} {g : Vw} (he : e < 12) (h : g 77 2 = e) : vFn (vM MT0 D) nb_X9_hearReplies (F + 1) 2 0 [vR 46, vR 76, vI r, vI 2, x4] [] g = vFn (vM MT0 D) nb_X9_hearReplies F 1 0 [vR 46, vR 76, vI ((r + g (46 + 3 + e) 2) % 4294967296), vI (2 + 1), vI e] [] (vup g (46 + 17 + 3 * 5) e ((g (46 + 17 + 3 * 5) e + 1) % 4294967296)) := by
  refine (vF_g rfl rfl).trans ?_
  refine Eq.trans (b := vB (vM MT0 D) (vFn (vM MT0 D) nb_X9_hearReplies F) hr2T hr2R 0 [vR 46, vR 76, vI r, vI 2, x4] [vI (g 77 2)] g) rfl ?_
  rw [h]
  clear h
  rcases (show e = 0 ∨ e = 1 ∨ e = 2 ∨ e = 3 ∨ e = 4 ∨ e = 5 ∨ e = 6 ∨ e = 7 ∨ e = 8 ∨ e = 9 ∨ e = 10 ∨ e = 11 by omega) with rfl | rfl | rfl | rfl | rfl | rfl | rfl | rfl | rfl | rfl | rfl | rfl <;> exact rfl
theorem ps2_46_5_2 {D F e : Nat} {x3 x4 : AV} {g : Vw} (he : e < 12) (h : g 77 2 = e) : vFn (vM MT0 D) nb_X9_payStaff (F + 1) 2 0 [vR 46, vR 76, vI 2, x3, x4] [] g = vc3 (bv (g 76 4)) (bv (g_imul (g 76 3) (g (46 + 3 + e) 2))) (vFn (vM MT0 D) nb_X9_payStaff F 4 0 [vR 46, vR 76, vI 2, vR (46 + 3 + e), vI (g_imul (g 76 3) (g (46 + 3 + e) 2))] [] g) (vFn (vM MT0 D) nb_X9_payStaff F 3 0 [vR 46, vR 76, vI 2, vR (46 + 3 + e), vI (g_imul (g 76 3) (g (46 + 3 + e) 2))] [] g) (vFn (vM MT0 D) nb_X9_payStaff F 3 0 [vR 46, vR 76, vI 2, vR (46 + 3 + e), vI (g_imul (g 76 3) (g (46 + 3 + e) 2))] [] g) := by
  refine (vF_g rfl rfl).trans ?_
  refine Eq.trans (b := vB (vM MT0 D) (vFn (vM MT0 D) nb_X9_payStaff F) ps2T ps2R 0 [vR 46, vR 76, vI 2, x3, x4] [vI (g 77 2), vR 47] g) rfl ?_
  rw [h]
  clear h
  rcases (show e = 0 ∨ e = 1 ∨ e = 2 ∨ e = 3 ∨ e = 4 ∨ e = 5 ∨ e = 6 ∨ e = 7 ∨ e = 8 ∨ e = 9 ∨ e = 10 ∨ e = 11 by omega) with rfl | rfl | rfl | rfl | rfl | rfl | rfl | rfl | rfl | rfl | rfl | rfl <;> exact rfl
theorem hr1l_46_5 {D F i r : Nat} {x4 : AV} {g : Vw} (h : i < g 76 6) (h3 : g 76 6 ≤ 3) : vFn (vM MT0 D) nb_X9_hearReplies (F + 1) 1 0 [vR 46, vR 76, vI r, vI i, x4] [] g = vFn (vM MT0 D) nb_X9_hearReplies F 2 0 [vR 46, vR 76, vI r, vI i, x4] [] g := by
  refine (vF_g rfl rfl).trans ?_
  refine (vlt (x := i) (y := g 76 6) (by omega) h).trans ?_
  exact rfl
theorem hr1g_46_5 {D F i r : Nat} {x4 : AV} {g : Vw} (h : g 76 6 ≤ i) (h3 : i ≤ 3) : vFn (vM MT0 D) nb_X9_hearReplies (F + 1) 1 0 [vR 46, vR 76, vI r, vI i, x4] [] g = vFn (vM MT0 D) nb_X9_hearReplies F 3 0 [vR 46, vR 76, vI r, vI i, x4] [] g := by
  refine (vF_g rfl rfl).trans ?_
  refine (vge2 (x := i) (y := g 76 6) (by omega) h).trans ?_
  exact rfl
theorem hr3_46_5 {D F r : Nat} {x3 x4 : AV} {g : Vw} : vFn (vM MT0 D) nb_X9_hearReplies (F + 1) 3 0 [vR 46, vR 76, vI r, x3, x4] [] g = some ((1, 0), vW 3, hrE 46 76 r g) := by
  refine (vF_g rfl rfl).trans ?_
  exact rfl
theorem hrL_46_5 {D : Nat} {f : Vw} (h3 : f 76 6 ≤ 3) (hm : ∀ i, i < f 76 6 → f 77 i < 12) : ∀ (m i r F : Nat) (x4 : AV) (g : Vw), i + m = f 76 6 → (∀ a b, a ≠ 46 + 17 + 3 * 5 → g a b = f a b) → ∃ (r' i' : Nat) (y4 : AV) (g' : Vw), vFn (vM MT0 D) nb_X9_hearReplies (F + 2 * m + 1) 1 0 [vR 46, vR 76, vI r, vI i, x4] [] g = vFn (vM MT0 D) nb_X9_hearReplies F 3 0 [vR 46, vR 76, vI r', vI i', y4] [] g' ∧ ∀ a b, a ≠ 46 + 17 + 3 * 5 → g' a b = f a b := by
  intro m
  induction m with
  | zero =>
    intro i r F x4 g hi hg
    have e6 := hg 76 6 (by decide)
    rw [show F + 2 * 0 + 1 = F + 1 by omega]
    exact ⟨r, i, x4, g, hr1g_46_5 (by omega) (by omega), hg⟩
  | succ m ih =>
    intro i r F x4 g hi hg
    have e6 := hg 76 6 (by decide)
    have e1 := hg 77 i (by decide)
    have he := hm i (by omega)
    have hs : ∀ r9 : Nat, vFn (vM MT0 D) nb_X9_hearReplies (F + 2 * m + 1 + 1) 2 0 [vR 46, vR 76, vI r, vI i, x4] [] g = vFn (vM MT0 D) nb_X9_hearReplies (F + 2 * m + 1) 1 0 [vR 46, vR 76, vI ((r + g (46 + 3 + f 77 i) 2) % 4294967296), vI (i + 1), vI (f 77 i)] [] (vup g (46 + 17 + 3 * 5) (f 77 i) ((g (46 + 17 + 3 * 5) (f 77 i) + 1) % 4294967296)) := fun _ => by
      rcases (show i = 0 ∨ i = 1 ∨ i = 2 by omega) with q | q | q
      · subst q; exact hr2_46_5_0 he e1
      · subst q; exact hr2_46_5_1 he e1
      · subst q; exact hr2_46_5_2 he e1
    obtain ⟨r', i', y4, g', k1, k2⟩ := ih (i + 1) ((r + g (46 + 3 + f 77 i) 2) % 4294967296) F (vI (f 77 i)) (vup g (46 + 17 + 3 * 5) (f 77 i) ((g (46 + 17 + 3 * 5) (f 77 i) + 1) % 4294967296)) (by omega) (fun a b h => (vup_ne (Or.inl h)).trans (hg a b h))
    refine ⟨r', i', y4, g', ?_, k2⟩
    rw [show F + 2 * (m + 1) + 1 = F + 2 * m + 1 + 1 + 1 by omega]
    exact (hr1l_46_5 (by omega) (by omega)).trans ((hs 0).trans k1)
theorem hr_46_5 {D : Nat} {f : Vw} (hj : 5 < f 46 3) (h8 : f 46 3 ≤ 8) (h2 : f 46 2 ≤ 12) (h3 : f 76 6 ≤ 3) (hm : ∀ i, i < f 76 6 → f 77 i < 12) : ∃ g, vM MT0 (D + 1) 89 [vR 46, vR 76] f = some ((1, 0), vW 3, g) ∧ FrW 46 f g := by
  obtain ⟨F, hF, go⟩ := vM_at (D := D) (y := 89) (as := [vR 46, vR 76]) (f := f) rfl rfl rfl rfl
  obtain ⟨r', i', y4, g', k1, k2⟩ := hrL_46_5 (D := D) h3 hm (f 76 6) 0 0 (F + 57 - 2 * f 76 6 + 1) (vW 3) f (by omega) (fun _ _ _ => rfl)
  rw [show F + 57 - 2 * f 76 6 + 1 + 2 * f 76 6 + 1 = F + 59 by omega] at k1
  have e0 : vFn (vM MT0 D) nb_X9_hearReplies (F + 60) 0 0 (iniL 5 [vR 46, vR 76]) [] f = vFn (vM MT0 D) nb_X9_hearReplies (F + 59) 1 0 [vR 46, vR 76, vI 0, vI 0, vW 3] [] f := by
    refine (vF_g rfl rfl).trans ?_
    exact rfl
  exact ⟨_, go _ (e0.trans (k1.trans hr3_46_5)), hr_F hj h8 k2⟩
theorem ps1l_46_5 {D F i : Nat} {x3 x4 : AV} {g : Vw} (h : i < g 76 6) (h3 : g 76 6 ≤ 3) : vFn (vM MT0 D) nb_X9_payStaff (F + 1) 1 0 [vR 46, vR 76, vI i, x3, x4] [] g = vFn (vM MT0 D) nb_X9_payStaff F 2 0 [vR 46, vR 76, vI i, x3, x4] [] g := by
  refine (vF_g rfl rfl).trans ?_
  refine (vlt (x := i) (y := g 76 6) (by omega) h).trans ?_
  exact rfl
theorem ps1g_46_5 {D F i : Nat} {x3 x4 : AV} {g : Vw} (h : g 76 6 ≤ i) (h3 : i ≤ 3) : vFn (vM MT0 D) nb_X9_payStaff (F + 2) 1 0 [vR 46, vR 76, vI i, x3, x4] [] g = some ((1, 0), vW 3, g) := by
  refine (vF_g rfl rfl).trans ?_
  refine (vge2 (x := i) (y := g 76 6) (by omega) h).trans ?_
  refine (vF_g rfl rfl).trans ?_
  exact rfl
theorem ps3_46_5 {D F i e p : Nat} {g : Vw} (he : e < 12) (hi : i < 3) : vFn (vM MT0 D) nb_X9_payStaff (F + 2) 3 0 [vR 46, vR 76, vI i, vR (46 + 3 + e), vI p] [] g = vFn (vM MT0 D) nb_X9_payStaff F 1 0 [vR 46, vR 76, vI (i + 1), vR (46 + 3 + e), vI p] [] (psE 76 (46 + 3 + e) p g) := by
  rcases (show i = 0 ∨ i = 1 ∨ i = 2 by omega) with q | q | q <;> subst q <;> rcases (show e = 0 ∨ e = 1 ∨ e = 2 ∨ e = 3 ∨ e = 4 ∨ e = 5 ∨ e = 6 ∨ e = 7 ∨ e = 8 ∨ e = 9 ∨ e = 10 ∨ e = 11 by omega) with rfl | rfl | rfl | rfl | rfl | rfl | rfl | rfl | rfl | rfl | rfl | rfl <;> (refine (vF_g rfl rfl).trans ?_; refine (vF_g rfl rfl).trans ?_; exact rfl)
theorem ps4_46_5 {D F i e p : Nat} {g : Vw} (he : e < 12) (hi : i < 3) : vFn (vM MT0 D) nb_X9_payStaff (F + 2) 4 0 [vR 46, vR 76, vI i, vR (46 + 3 + e), vI p] [] g = vFn (vM MT0 D) nb_X9_payStaff F 1 0 [vR 46, vR 76, vI (i + 1), vR (46 + 3 + e), vI p] [] (vup g (46 + 3 + e) 6 ((g (46 + 3 + e) 6 + 1) % 4294967296)) := by
  rcases (show i = 0 ∨ i = 1 ∨ i = 2 by omega) with q | q | q <;> subst q <;> rcases (show e = 0 ∨ e = 1 ∨ e = 2 ∨ e = 3 ∨ e = 4 ∨ e = 5 ∨ e = 6 ∨ e = 7 ∨ e = 8 ∨ e = 9 ∨ e = 10 ∨ e = 11 by omega) with rfl | rfl | rfl | rfl | rfl | rfl | rfl | rfl | rfl | rfl | rfl | rfl <;> (refine (vF_g rfl rfl).trans ?_; refine (vF_g rfl rfl).trans ?_; exact rfl)
theorem psL_46_5 {D : Nat} {f : Vw} (hj : 5 < f 46 3) (h8 : f 46 3 ≤ 8) (h2 : f 46 2 ≤ 12) (h3 : f 76 6 ≤ 3) (hm : ∀ i, i < f 76 6 → f 77 i < 12) : ∀ (m i F : Nat) (x3 x4 : AV) (g : Vw), i + m = f 76 6 → FrW 46 f g → ∃ g' : Vw, vFn (vM MT0 D) nb_X9_payStaff (F + 4 * m + 2) 1 0 [vR 46, vR 76, vI i, x3, x4] [] g = some ((1, 0), vW 3, g') ∧ FrW 46 f g' := by
  intro m
  induction m with
  | zero =>
    intro i F x3 x4 g hi hg
    have e6 : g 76 6 = f 76 6 := hg 76 6 (Or.inr (Or.inr (Or.inr (Or.inr ⟨5, by decide, Or.inl ⟨by decide, by decide, by decide, by decide⟩⟩))))
    rw [show F + 4 * 0 + 2 = F + 2 by omega]
    exact ⟨g, ps1g_46_5 (by omega) (by omega), hg⟩
  | succ m ih =>
    intro i F x3 x4 g hi hg
    have e6 : g 76 6 = f 76 6 := hg 76 6 (Or.inr (Or.inr (Or.inr (Or.inr ⟨5, by decide, Or.inl ⟨by decide, by decide, by decide, by decide⟩⟩))))
    have e1 : g 77 i = f 77 i := hg 77 i (Or.inr (Or.inr (Or.inr (Or.inr ⟨5, by decide, Or.inr (by decide)⟩))))
    have e2 : g 46 2 = f 46 2 := hg 46 2 (Or.inr (Or.inr (Or.inl ⟨rfl, by decide⟩)))
    have e3 : g 46 3 = f 46 3 := hg 46 3 (Or.inr (Or.inr (Or.inl ⟨rfl, by decide⟩)))
    have he := hm i (by omega)
    have he9 : f 77 i < 12 := by omega
    have hi3 : i < 3 := by omega
    rw [show F + 4 * (m + 1) + 2 = F + 4 * m + 2 + 2 + 1 + 1 by omega]
    have hs : ∃ G : Vw, vFn (vM MT0 D) nb_X9_payStaff (F + 4 * m + 2 + 2 + 1) 2 0 [vR 46, vR 76, vI i, x3, x4] [] g = vFn (vM MT0 D) nb_X9_payStaff (F + 4 * m + 2) 1 0 [vR 46, vR 76, vI (i + 1), vR (46 + 3 + f 77 i), vI (g_imul (g 76 3) (g (46 + 3 + f 77 i) 2))] [] G ∧ FrW 46 g G := by
      have hc := (show vFn (vM MT0 D) nb_X9_payStaff (F + 4 * m + 2 + 2 + 1) 2 0 [vR 46, vR 76, vI i, x3, x4] [] g = vc3 (bv (g 76 4)) (bv (g_imul (g 76 3) (g (46 + 3 + f 77 i) 2))) (vFn (vM MT0 D) nb_X9_payStaff (F + 4 * m + 2 + 2) 4 0 [vR 46, vR 76, vI i, vR (46 + 3 + f 77 i), vI (g_imul (g 76 3) (g (46 + 3 + f 77 i) 2))] [] g) (vFn (vM MT0 D) nb_X9_payStaff (F + 4 * m + 2 + 2) 3 0 [vR 46, vR 76, vI i, vR (46 + 3 + f 77 i), vI (g_imul (g 76 3) (g (46 + 3 + f 77 i) 2))] [] g) (vFn (vM MT0 D) nb_X9_payStaff (F + 4 * m + 2 + 2) 3 0 [vR 46, vR 76, vI i, vR (46 + 3 + f 77 i), vI (g_imul (g 76 3) (g (46 + 3 + f 77 i) 2))] [] g) from by
        rcases (show i = 0 ∨ i = 1 ∨ i = 2 by omega) with q | q | q
        · subst q; exact ps2_46_5_0 he9 e1
        · subst q; exact ps2_46_5_1 he9 e1
        · subst q; exact ps2_46_5_2 he9 e1)
      rcases vc3_or (u := bv (g 76 4)) (w := bv (g_imul (g 76 3) (g (46 + 3 + f 77 i) 2))) (a := vFn (vM MT0 D) nb_X9_payStaff (F + 4 * m + 2 + 2) 4 0 [vR 46, vR 76, vI i, vR (46 + 3 + f 77 i), vI (g_imul (g 76 3) (g (46 + 3 + f 77 i) 2))] [] g) (b := vFn (vM MT0 D) nb_X9_payStaff (F + 4 * m + 2 + 2) 3 0 [vR 46, vR 76, vI i, vR (46 + 3 + f 77 i), vI (g_imul (g 76 3) (g (46 + 3 + f 77 i) 2))] [] g) with q | q
      · exact ⟨_, hc.trans (q.trans (ps4_46_5 he9 hi3)), un_F (j := 5) (by omega) (by omega) (by omega)⟩
      · exact ⟨_, hc.trans (q.trans (ps3_46_5 he9 hi3)), ps_F (j := 5) (by omega) (by omega) (by omega) (by omega)⟩
    obtain ⟨G, s1, s2⟩ := hs
    obtain ⟨g', k1, k2⟩ := ih (i + 1) F (vR (46 + 3 + f 77 i)) (vI (g_imul (g 76 3) (g (46 + 3 + f 77 i) 2))) G (by omega) (frW_tr hg s2)
    exact ⟨g', (ps1l_46_5 (by omega) (by omega)).trans (s1.trans k1), k2⟩
theorem ps_46_5 {D : Nat} {f : Vw} (hj : 5 < f 46 3) (h8 : f 46 3 ≤ 8) (h2 : f 46 2 ≤ 12) (h3 : f 76 6 ≤ 3) (hm : ∀ i, i < f 76 6 → f 77 i < 12) : ∃ g, vM MT0 (D + 1) 90 [vR 46, vR 76] f = some ((1, 0), vW 3, g) ∧ FrW 46 f g := by
  obtain ⟨F, hF, go⟩ := vM_at (D := D) (y := 90) (as := [vR 46, vR 76]) (f := f) rfl rfl rfl rfl
  obtain ⟨g', k1, k2⟩ := psL_46_5 (D := D) hj h8 h2 h3 hm (f 76 6) 0 (F + 57 - 4 * f 76 6) (vW 3) (vW 3) f (by omega) frW_rf
  rw [show F + 57 - 4 * f 76 6 + 4 * f 76 6 + 2 = F + 59 by omega] at k1
  have e0 : vFn (vM MT0 D) nb_X9_payStaff (F + 60) 0 0 (iniL 5 [vR 46, vR 76]) [] f = vFn (vM MT0 D) nb_X9_payStaff (F + 59) 1 0 [vR 46, vR 76, vI 0, vW 3, vW 3] [] f := by
    refine (vF_g rfl rfl).trans ?_
    exact rfl
  exact ⟨g', go _ (e0.trans k1), k2⟩
theorem hr2_46_6_0 {D F e r : Nat} {x4 : AV} {g : Vw} (he : e < 12) (h : g 80 0 = e) : vFn (vM MT0 D) nb_X9_hearReplies (F + 1) 2 0 [vR 46, vR 79, vI r, vI 0, x4] [] g = vFn (vM MT0 D) nb_X9_hearReplies F 1 0 [vR 46, vR 79, vI ((r + g (46 + 3 + e) 2) % 4294967296), vI (0 + 1), vI e] [] (vup g (46 + 17 + 3 * 6) e ((g (46 + 17 + 3 * 6) e + 1) % 4294967296)) := by
  refine (vF_g rfl rfl).trans ?_
  refine Eq.trans (b := vB (vM MT0 D) (vFn (vM MT0 D) nb_X9_hearReplies F) hr2T hr2R 0 [vR 46, vR 79, vI r, vI 0, x4] [vI (g 80 0)] g) rfl ?_
  rw [h]
  clear h
  rcases (show e = 0 ∨ e = 1 ∨ e = 2 ∨ e = 3 ∨ e = 4 ∨ e = 5 ∨ e = 6 ∨ e = 7 ∨ e = 8 ∨ e = 9 ∨ e = 10 ∨ e = 11 by omega) with rfl | rfl | rfl | rfl | rfl | rfl | rfl | rfl | rfl | rfl | rfl | rfl <;> exact rfl
theorem ps2_46_6_0 {D F e : Nat} {x3 x4 : AV} {g : Vw} (he : e < 12) (h : g 80 0 = e) : vFn (vM MT0 D) nb_X9_payStaff (F + 1) 2 0 [vR 46, vR 79, vI 0, x3, x4] [] g = vc3 (bv (g 79 4)) (bv (g_imul (g 79 3) (g (46 + 3 + e) 2))) (vFn (vM MT0 D) nb_X9_payStaff F 4 0 [vR 46, vR 79, vI 0, vR (46 + 3 + e), vI (g_imul (g 79 3) (g (46 + 3 + e) 2))] [] g) (vFn (vM MT0 D) nb_X9_payStaff F 3 0 [vR 46, vR 79, vI 0, vR (46 + 3 + e), vI (g_imul (g 79 3) (g (46 + 3 + e) 2))] [] g) (vFn (vM MT0 D) nb_X9_payStaff F 3 0 [vR 46, vR 79, vI 0, vR (46 + 3 + e), vI (g_imul (g 79 3) (g (46 + 3 + e) 2))] [] g) := by
  refine (vF_g rfl rfl).trans ?_
  refine Eq.trans (b := vB (vM MT0 D) (vFn (vM MT0 D) nb_X9_payStaff F) ps2T ps2R 0 [vR 46, vR 79, vI 0, x3, x4] [vI (g 80 0), vR 47] g) rfl ?_
  rw [h]
  clear h
  rcases (show e = 0 ∨ e = 1 ∨ e = 2 ∨ e = 3 ∨ e = 4 ∨ e = 5 ∨ e = 6 ∨ e = 7 ∨ e = 8 ∨ e = 9 ∨ e = 10 ∨ e = 11 by omega) with rfl | rfl | rfl | rfl | rfl | rfl | rfl | rfl | rfl | rfl | rfl | rfl <;> exact rfl
theorem hr2_46_6_1 {D F e r : Nat} {x4 : AV} {g : Vw} (he : e < 12) (h : g 80 1 = e) : vFn (vM MT0 D) nb_X9_hearReplies (F + 1) 2 0 [vR 46, vR 79, vI r, vI 1, x4] [] g = vFn (vM MT0 D) nb_X9_hearReplies F 1 0 [vR 46, vR 79, vI ((r + g (46 + 3 + e) 2) % 4294967296), vI (1 + 1), vI e] [] (vup g (46 + 17 + 3 * 6) e ((g (46 + 17 + 3 * 6) e + 1) % 4294967296)) := by
  refine (vF_g rfl rfl).trans ?_
  refine Eq.trans (b := vB (vM MT0 D) (vFn (vM MT0 D) nb_X9_hearReplies F) hr2T hr2R 0 [vR 46, vR 79, vI r, vI 1, x4] [vI (g 80 1)] g) rfl ?_
  rw [h]
  clear h
  rcases (show e = 0 ∨ e = 1 ∨ e = 2 ∨ e = 3 ∨ e = 4 ∨ e = 5 ∨ e = 6 ∨ e = 7 ∨ e = 8 ∨ e = 9 ∨ e = 10 ∨ e = 11 by omega) with rfl | rfl | rfl | rfl | rfl | rfl | rfl | rfl | rfl | rfl | rfl | rfl <;> exact rfl
theorem ps2_46_6_1 {D F e : Nat} {x3 x4 : AV} {g : Vw} (he : e < 12) (h : g 80 1 = e) : vFn (vM MT0 D) nb_X9_payStaff (F + 1) 2 0 [vR 46, vR 79, vI 1, x3, x4] [] g = vc3 (bv (g 79 4)) (bv (g_imul (g 79 3) (g (46 + 3 + e) 2))) (vFn (vM MT0 D) nb_X9_payStaff F 4 0 [vR 46, vR 79, vI 1, vR (46 + 3 + e), vI (g_imul (g 79 3) (g (46 + 3 + e) 2))] [] g) (vFn (vM MT0 D) nb_X9_payStaff F 3 0 [vR 46, vR 79, vI 1, vR (46 + 3 + e), vI (g_imul (g 79 3) (g (46 + 3 + e) 2))] [] g) (vFn (vM MT0 D) nb_X9_payStaff F 3 0 [vR 46, vR 79, vI 1, vR (46 + 3 + e), vI (g_imul (g 79 3) (g (46 + 3 + e) 2))] [] g) := by
  refine (vF_g rfl rfl).trans ?_
  refine Eq.trans (b := vB (vM MT0 D) (vFn (vM MT0 D) nb_X9_payStaff F) ps2T ps2R 0 [vR 46, vR 79, vI 1, x3, x4] [vI (g 80 1), vR 47] g) rfl ?_
  rw [h]
  clear h
  rcases (show e = 0 ∨ e = 1 ∨ e = 2 ∨ e = 3 ∨ e = 4 ∨ e = 5 ∨ e = 6 ∨ e = 7 ∨ e = 8 ∨ e = 9 ∨ e = 10 ∨ e = 11 by omega) with rfl | rfl | rfl | rfl | rfl | rfl | rfl | rfl | rfl | rfl | rfl | rfl <;> exact rfl
theorem hr2_46_6_2 {D F e r : Nat} {x4 : AV} {g : Vw} (he : e < 12) (h : g 80 2 = e) : vFn (vM MT0 D) nb_X9_hearReplies (F + 1) 2 0 [vR 46, vR 79, vI r, vI 2, x4] [] g = vFn (vM MT0 D) nb_X9_hearReplies F 1 0 [vR 46, vR 79, vI ((r + g (46 + 3 + e) 2) % 4294967296), vI (2 + 1), vI e] [] (vup g (46 + 17 + 3 * 6) e ((g (46 + 17 + 3 * 6) e + 1) % 4294967296)) := by
  refine (vF_g rfl rfl).trans ?_
  refine Eq.trans (b := vB (vM MT0 D) (vFn (vM MT0 D) nb_X9_hearReplies F) hr2T hr2R 0 [vR 46, vR 79, vI r, vI 2, x4] [vI (g 80 2)] g) rfl ?_
  rw [h]
  clear h
  rcases (show e = 0 ∨ e = 1 ∨ e = 2 ∨ e = 3 ∨ e = 4 ∨ e = 5 ∨ e = 6 ∨ e = 7 ∨ e = 8 ∨ e = 9 ∨ e = 10 ∨ e = 11 by omega) with rfl | rfl | rfl | rfl | rfl | rfl | rfl | rfl | rfl | rfl | rfl | rfl <;> exact rfl
theorem ps2_46_6_2 {D F e : Nat} {x3 x4 : AV} {g : Vw} (he : e < 12) (h : g 80 2 = e) : vFn (vM MT0 D) nb_X9_payStaff (F + 1) 2 0 [vR 46, vR 79, vI 2, x3, x4] [] g = vc3 (bv (g 79 4)) (bv (g_imul (g 79 3) (g (46 + 3 + e) 2))) (vFn (vM MT0 D) nb_X9_payStaff F 4 0 [vR 46, vR 79, vI 2, vR (46 + 3 + e), vI (g_imul (g 79 3) (g (46 + 3 + e) 2))] [] g) (vFn (vM MT0 D) nb_X9_payStaff F 3 0 [vR 46, vR 79, vI 2, vR (46 + 3 + e), vI (g_imul (g 79 3) (g (46 + 3 + e) 2))] [] g) (vFn (vM MT0 D) nb_X9_payStaff F 3 0 [vR 46, vR 79, vI 2, vR (46 + 3 + e), vI (g_imul (g 79 3) (g (46 + 3 + e) 2))] [] g) := by
  refine (vF_g rfl rfl).trans ?_
  refine Eq.trans (b := vB (vM MT0 D) (vFn (vM MT0 D) nb_X9_payStaff F) ps2T ps2R 0 [vR 46, vR 79, vI 2, x3, x4] [vI (g 80 2), vR 47] g) rfl ?_
  rw [h]
  clear h
  rcases (show e = 0 ∨ e = 1 ∨ e = 2 ∨ e = 3 ∨ e = 4 ∨ e = 5 ∨ e = 6 ∨ e = 7 ∨ e = 8 ∨ e = 9 ∨ e = 10 ∨ e = 11 by omega) with rfl | rfl | rfl | rfl | rfl | rfl | rfl | rfl | rfl | rfl | rfl | rfl <;> exact rfl
theorem hr1l_46_6 {D F i r : Nat} {x4 : AV} {g : Vw} (h : i < g 79 6) (h3 : g 79 6 ≤ 3) : vFn (vM MT0 D) nb_X9_hearReplies (F + 1) 1 0 [vR 46, vR 79, vI r, vI i, x4] [] g = vFn (vM MT0 D) nb_X9_hearReplies F 2 0 [vR 46, vR 79, vI r, vI i, x4] [] g := by
  refine (vF_g rfl rfl).trans ?_
  refine (vlt (x := i) (y := g 79 6) (by omega) h).trans ?_
  exact rfl
theorem hr1g_46_6 {D F i r : Nat} {x4 : AV} {g : Vw} (h : g 79 6 ≤ i) (h3 : i ≤ 3) : vFn (vM MT0 D) nb_X9_hearReplies (F + 1) 1 0 [vR 46, vR 79, vI r, vI i, x4] [] g = vFn (vM MT0 D) nb_X9_hearReplies F 3 0 [vR 46, vR 79, vI r, vI i, x4] [] g := by
  refine (vF_g rfl rfl).trans ?_
  refine (vge2 (x := i) (y := g 79 6) (by omega) h).trans ?_
  exact rfl
theorem hr3_46_6 {D F r : Nat} {x3 x4 : AV} {g : Vw} : vFn (vM MT0 D) nb_X9_hearReplies (F + 1) 3 0 [vR 46, vR 79, vI r, x3, x4] [] g = some ((1, 0), vW 3, hrE 46 79 r g) := by
  refine (vF_g rfl rfl).trans ?_
  exact rfl
theorem hrL_46_6 {D : Nat} {f : Vw} (h3 : f 79 6 ≤ 3) (hm : ∀ i, i < f 79 6 → f 80 i < 12) : ∀ (m i r F : Nat) (x4 : AV) (g : Vw), i + m = f 79 6 → (∀ a b, a ≠ 46 + 17 + 3 * 6 → g a b = f a b) → ∃ (r' i' : Nat) (y4 : AV) (g' : Vw), vFn (vM MT0 D) nb_X9_hearReplies (F + 2 * m + 1) 1 0 [vR 46, vR 79, vI r, vI i, x4] [] g = vFn (vM MT0 D) nb_X9_hearReplies F 3 0 [vR 46, vR 79, vI r', vI i', y4] [] g' ∧ ∀ a b, a ≠ 46 + 17 + 3 * 6 → g' a b = f a b := by
  intro m
  induction m with
  | zero =>
    intro i r F x4 g hi hg
    have e6 := hg 79 6 (by decide)
    rw [show F + 2 * 0 + 1 = F + 1 by omega]
    exact ⟨r, i, x4, g, hr1g_46_6 (by omega) (by omega), hg⟩
  | succ m ih =>
    intro i r F x4 g hi hg
    have e6 := hg 79 6 (by decide)
    have e1 := hg 80 i (by decide)
    have he := hm i (by omega)
    have hs : ∀ r9 : Nat, vFn (vM MT0 D) nb_X9_hearReplies (F + 2 * m + 1 + 1) 2 0 [vR 46, vR 79, vI r, vI i, x4] [] g = vFn (vM MT0 D) nb_X9_hearReplies (F + 2 * m + 1) 1 0 [vR 46, vR 79, vI ((r + g (46 + 3 + f 80 i) 2) % 4294967296), vI (i + 1), vI (f 80 i)] [] (vup g (46 + 17 + 3 * 6) (f 80 i) ((g (46 + 17 + 3 * 6) (f 80 i) + 1) % 4294967296)) := fun _ => by
      rcases (show i = 0 ∨ i = 1 ∨ i = 2 by omega) with q | q | q
      · subst q; exact hr2_46_6_0 he e1
      · subst q; exact hr2_46_6_1 he e1
      · subst q; exact hr2_46_6_2 he e1
    obtain ⟨r', i', y4, g', k1, k2⟩ := ih (i + 1) ((r + g (46 + 3 + f 80 i) 2) % 4294967296) F (vI (f 80 i)) (vup g (46 + 17 + 3 * 6) (f 80 i) ((g (46 + 17 + 3 * 6) (f 80 i) + 1) % 4294967296)) (by omega) (fun a b h => (vup_ne (Or.inl h)).trans (hg a b h))
    refine ⟨r', i', y4, g', ?_, k2⟩
    rw [show F + 2 * (m + 1) + 1 = F + 2 * m + 1 + 1 + 1 by omega]
    exact (hr1l_46_6 (by omega) (by omega)).trans ((hs 0).trans k1)
theorem hr_46_6 {D : Nat} {f : Vw} (hj : 6 < f 46 3) (h8 : f 46 3 ≤ 8) (h2 : f 46 2 ≤ 12) (h3 : f 79 6 ≤ 3) (hm : ∀ i, i < f 79 6 → f 80 i < 12) : ∃ g, vM MT0 (D + 1) 89 [vR 46, vR 79] f = some ((1, 0), vW 3, g) ∧ FrW 46 f g := by
  obtain ⟨F, hF, go⟩ := vM_at (D := D) (y := 89) (as := [vR 46, vR 79]) (f := f) rfl rfl rfl rfl
  obtain ⟨r', i', y4, g', k1, k2⟩ := hrL_46_6 (D := D) h3 hm (f 79 6) 0 0 (F + 57 - 2 * f 79 6 + 1) (vW 3) f (by omega) (fun _ _ _ => rfl)
  rw [show F + 57 - 2 * f 79 6 + 1 + 2 * f 79 6 + 1 = F + 59 by omega] at k1
  have e0 : vFn (vM MT0 D) nb_X9_hearReplies (F + 60) 0 0 (iniL 5 [vR 46, vR 79]) [] f = vFn (vM MT0 D) nb_X9_hearReplies (F + 59) 1 0 [vR 46, vR 79, vI 0, vI 0, vW 3] [] f := by
    refine (vF_g rfl rfl).trans ?_
    exact rfl
  exact ⟨_, go _ (e0.trans (k1.trans hr3_46_6)), hr_F hj h8 k2⟩
theorem ps1l_46_6 {D F i : Nat} {x3 x4 : AV} {g : Vw} (h : i < g 79 6) (h3 : g 79 6 ≤ 3) : vFn (vM MT0 D) nb_X9_payStaff (F + 1) 1 0 [vR 46, vR 79, vI i, x3, x4] [] g = vFn (vM MT0 D) nb_X9_payStaff F 2 0 [vR 46, vR 79, vI i, x3, x4] [] g := by
  refine (vF_g rfl rfl).trans ?_
  refine (vlt (x := i) (y := g 79 6) (by omega) h).trans ?_
  exact rfl
theorem ps1g_46_6 {D F i : Nat} {x3 x4 : AV} {g : Vw} (h : g 79 6 ≤ i) (h3 : i ≤ 3) : vFn (vM MT0 D) nb_X9_payStaff (F + 2) 1 0 [vR 46, vR 79, vI i, x3, x4] [] g = some ((1, 0), vW 3, g) := by
  refine (vF_g rfl rfl).trans ?_
  refine (vge2 (x := i) (y := g 79 6) (by omega) h).trans ?_
  refine (vF_g rfl rfl).trans ?_
  exact rfl
theorem ps3_46_6 {D F i e p : Nat} {g : Vw} (he : e < 12) (hi : i < 3) : vFn (vM MT0 D) nb_X9_payStaff (F + 2) 3 0 [vR 46, vR 79, vI i, vR (46 + 3 + e), vI p] [] g = vFn (vM MT0 D) nb_X9_payStaff F 1 0 [vR 46, vR 79, vI (i + 1), vR (46 + 3 + e), vI p] [] (psE 79 (46 + 3 + e) p g) := by
  rcases (show i = 0 ∨ i = 1 ∨ i = 2 by omega) with q | q | q <;> subst q <;> rcases (show e = 0 ∨ e = 1 ∨ e = 2 ∨ e = 3 ∨ e = 4 ∨ e = 5 ∨ e = 6 ∨ e = 7 ∨ e = 8 ∨ e = 9 ∨ e = 10 ∨ e = 11 by omega) with rfl | rfl | rfl | rfl | rfl | rfl | rfl | rfl | rfl | rfl | rfl | rfl <;> (refine (vF_g rfl rfl).trans ?_; refine (vF_g rfl rfl).trans ?_; exact rfl)
theorem ps4_46_6 {D F i e p : Nat} {g : Vw} (he : e < 12) (hi : i < 3) : vFn (vM MT0 D) nb_X9_payStaff (F + 2) 4 0 [vR 46, vR 79, vI i, vR (46 + 3 + e), vI p] [] g = vFn (vM MT0 D) nb_X9_payStaff F 1 0 [vR 46, vR 79, vI (i + 1), vR (46 + 3 + e), vI p] [] (vup g (46 + 3 + e) 6 ((g (46 + 3 + e) 6 + 1) % 4294967296)) := by
  rcases (show i = 0 ∨ i = 1 ∨ i = 2 by omega) with q | q | q <;> subst q <;> rcases (show e = 0 ∨ e = 1 ∨ e = 2 ∨ e = 3 ∨ e = 4 ∨ e = 5 ∨ e = 6 ∨ e = 7 ∨ e = 8 ∨ e = 9 ∨ e = 10 ∨ e = 11 by omega) with rfl | rfl | rfl | rfl | rfl | rfl | rfl | rfl | rfl | rfl | rfl | rfl <;> (refine (vF_g rfl rfl).trans ?_; refine (vF_g rfl rfl).trans ?_; exact rfl)
theorem psL_46_6 {D : Nat} {f : Vw} (hj : 6 < f 46 3) (h8 : f 46 3 ≤ 8) (h2 : f 46 2 ≤ 12) (h3 : f 79 6 ≤ 3) (hm : ∀ i, i < f 79 6 → f 80 i < 12) : ∀ (m i F : Nat) (x3 x4 : AV) (g : Vw), i + m = f 79 6 → FrW 46 f g → ∃ g' : Vw, vFn (vM MT0 D) nb_X9_payStaff (F + 4 * m + 2) 1 0 [vR 46, vR 79, vI i, x3, x4] [] g = some ((1, 0), vW 3, g') ∧ FrW 46 f g' := by
  intro m
  induction m with
  | zero =>
    intro i F x3 x4 g hi hg
    have e6 : g 79 6 = f 79 6 := hg 79 6 (Or.inr (Or.inr (Or.inr (Or.inr ⟨6, by decide, Or.inl ⟨by decide, by decide, by decide, by decide⟩⟩))))
    rw [show F + 4 * 0 + 2 = F + 2 by omega]
    exact ⟨g, ps1g_46_6 (by omega) (by omega), hg⟩
  | succ m ih =>
    intro i F x3 x4 g hi hg
    have e6 : g 79 6 = f 79 6 := hg 79 6 (Or.inr (Or.inr (Or.inr (Or.inr ⟨6, by decide, Or.inl ⟨by decide, by decide, by decide, by decide⟩⟩))))
    have e1 : g 80 i = f 80 i := hg 80 i (Or.inr (Or.inr (Or.inr (Or.inr ⟨6, by decide, Or.inr (by decide)⟩))))
    have e2 : g 46 2 = f 46 2 := hg 46 2 (Or.inr (Or.inr (Or.inl ⟨rfl, by decide⟩)))
    have e3 : g 46 3 = f 46 3 := hg 46 3 (Or.inr (Or.inr (Or.inl ⟨rfl, by decide⟩)))
    have he := hm i (by omega)
    have he9 : f 80 i < 12 := by omega
    have hi3 : i < 3 := by omega
    rw [show F + 4 * (m + 1) + 2 = F + 4 * m + 2 + 2 + 1 + 1 by omega]
    have hs : ∃ G : Vw, vFn (vM MT0 D) nb_X9_payStaff (F + 4 * m + 2 + 2 + 1) 2 0 [vR 46, vR 79, vI i, x3, x4] [] g = vFn (vM MT0 D) nb_X9_payStaff (F + 4 * m + 2) 1 0 [vR 46, vR 79, vI (i + 1), vR (46 + 3 + f 80 i), vI (g_imul (g 79 3) (g (46 + 3 + f 80 i) 2))] [] G ∧ FrW 46 g G := by
      have hc := (show vFn (vM MT0 D) nb_X9_payStaff (F + 4 * m + 2 + 2 + 1) 2 0 [vR 46, vR 79, vI i, x3, x4] [] g = vc3 (bv (g 79 4)) (bv (g_imul (g 79 3) (g (46 + 3 + f 80 i) 2))) (vFn (vM MT0 D) nb_X9_payStaff (F + 4 * m + 2 + 2) 4 0 [vR 46, vR 79, vI i, vR (46 + 3 + f 80 i), vI (g_imul (g 79 3) (g (46 + 3 + f 80 i) 2))] [] g) (vFn (vM MT0 D) nb_X9_payStaff (F + 4 * m + 2 + 2) 3 0 [vR 46, vR 79, vI i, vR (46 + 3 + f 80 i), vI (g_imul (g 79 3) (g (46 + 3 + f 80 i) 2))] [] g) (vFn (vM MT0 D) nb_X9_payStaff (F + 4 * m + 2 + 2) 3 0 [vR 46, vR 79, vI i, vR (46 + 3 + f 80 i), vI (g_imul (g 79 3) (g (46 + 3 + f 80 i) 2))] [] g) from by
        rcases (show i = 0 ∨ i = 1 ∨ i = 2 by omega) with q | q | q
        · subst q; exact ps2_46_6_0 he9 e1
        · subst q; exact ps2_46_6_1 he9 e1
        · subst q; exact ps2_46_6_2 he9 e1)
      rcases vc3_or (u := bv (g 79 4)) (w := bv (g_imul (g 79 3) (g (46 + 3 + f 80 i) 2))) (a := vFn (vM MT0 D) nb_X9_payStaff (F + 4 * m + 2 + 2) 4 0 [vR 46, vR 79, vI i, vR (46 + 3 + f 80 i), vI (g_imul (g 79 3) (g (46 + 3 + f 80 i) 2))] [] g) (b := vFn (vM MT0 D) nb_X9_payStaff (F + 4 * m + 2 + 2) 3 0 [vR 46, vR 79, vI i, vR (46 + 3 + f 80 i), vI (g_imul (g 79 3) (g (46 + 3 + f 80 i) 2))] [] g) with q | q
      · exact ⟨_, hc.trans (q.trans (ps4_46_6 he9 hi3)), un_F (j := 6) (by omega) (by omega) (by omega)⟩
      · exact ⟨_, hc.trans (q.trans (ps3_46_6 he9 hi3)), ps_F (j := 6) (by omega) (by omega) (by omega) (by omega)⟩
    obtain ⟨G, s1, s2⟩ := hs
    obtain ⟨g', k1, k2⟩ := ih (i + 1) F (vR (46 + 3 + f 80 i)) (vI (g_imul (g 79 3) (g (46 + 3 + f 80 i) 2))) G (by omega) (frW_tr hg s2)
    exact ⟨g', (ps1l_46_6 (by omega) (by omega)).trans (s1.trans k1), k2⟩
theorem ps_46_6 {D : Nat} {f : Vw} (hj : 6 < f 46 3) (h8 : f 46 3 ≤ 8) (h2 : f 46 2 ≤ 12) (h3 : f 79 6 ≤ 3) (hm : ∀ i, i < f 79 6 → f 80 i < 12) : ∃ g, vM MT0 (D + 1) 90 [vR 46, vR 79] f = some ((1, 0), vW 3, g) ∧ FrW 46 f g := by
  obtain ⟨F, hF, go⟩ := vM_at (D := D) (y := 90) (as := [vR 46, vR 79]) (f := f) rfl rfl rfl rfl
  obtain ⟨g', k1, k2⟩ := psL_46_6 (D := D) hj h8 h2 h3 hm (f 79 6) 0 (F + 57 - 4 * f 79 6) (vW 3) (vW 3) f (by omega) frW_rf
  rw [show F + 57 - 4 * f 79 6 + 4 * f 79 6 + 2 = F + 59 by omega] at k1
  have e0 : vFn (vM MT0 D) nb_X9_payStaff (F + 60) 0 0 (iniL 5 [vR 46, vR 79]) [] f = vFn (vM MT0 D) nb_X9_payStaff (F + 59) 1 0 [vR 46, vR 79, vI 0, vW 3, vW 3] [] f := by
    refine (vF_g rfl rfl).trans ?_
    exact rfl
  exact ⟨g', go _ (e0.trans k1), k2⟩
theorem hr2_46_7_0 {D F e r : Nat} {x4 : AV} {g : Vw} (he : e < 12) (h : g 83 0 = e) : vFn (vM MT0 D) nb_X9_hearReplies (F + 1) 2 0 [vR 46, vR 82, vI r, vI 0, x4] [] g = vFn (vM MT0 D) nb_X9_hearReplies F 1 0 [vR 46, vR 82, vI ((r + g (46 + 3 + e) 2) % 4294967296), vI (0 + 1), vI e] [] (vup g (46 + 17 + 3 * 7) e ((g (46 + 17 + 3 * 7) e + 1) % 4294967296)) := by
  refine (vF_g rfl rfl).trans ?_
  refine Eq.trans (b := vB (vM MT0 D) (vFn (vM MT0 D) nb_X9_hearReplies F) hr2T hr2R 0 [vR 46, vR 82, vI r, vI 0, x4] [vI (g 83 0)] g) rfl ?_
  rw [h]
  clear h
  rcases (show e = 0 ∨ e = 1 ∨ e = 2 ∨ e = 3 ∨ e = 4 ∨ e = 5 ∨ e = 6 ∨ e = 7 ∨ e = 8 ∨ e = 9 ∨ e = 10 ∨ e = 11 by omega) with rfl | rfl | rfl | rfl | rfl | rfl | rfl | rfl | rfl | rfl | rfl | rfl <;> exact rfl
theorem ps2_46_7_0 {D F e : Nat} {x3 x4 : AV} {g : Vw} (he : e < 12) (h : g 83 0 = e) : vFn (vM MT0 D) nb_X9_payStaff (F + 1) 2 0 [vR 46, vR 82, vI 0, x3, x4] [] g = vc3 (bv (g 82 4)) (bv (g_imul (g 82 3) (g (46 + 3 + e) 2))) (vFn (vM MT0 D) nb_X9_payStaff F 4 0 [vR 46, vR 82, vI 0, vR (46 + 3 + e), vI (g_imul (g 82 3) (g (46 + 3 + e) 2))] [] g) (vFn (vM MT0 D) nb_X9_payStaff F 3 0 [vR 46, vR 82, vI 0, vR (46 + 3 + e), vI (g_imul (g 82 3) (g (46 + 3 + e) 2))] [] g) (vFn (vM MT0 D) nb_X9_payStaff F 3 0 [vR 46, vR 82, vI 0, vR (46 + 3 + e), vI (g_imul (g 82 3) (g (46 + 3 + e) 2))] [] g) := by
  refine (vF_g rfl rfl).trans ?_
  refine Eq.trans (b := vB (vM MT0 D) (vFn (vM MT0 D) nb_X9_payStaff F) ps2T ps2R 0 [vR 46, vR 82, vI 0, x3, x4] [vI (g 83 0), vR 47] g) rfl ?_
  rw [h]
  clear h
  rcases (show e = 0 ∨ e = 1 ∨ e = 2 ∨ e = 3 ∨ e = 4 ∨ e = 5 ∨ e = 6 ∨ e = 7 ∨ e = 8 ∨ e = 9 ∨ e = 10 ∨ e = 11 by omega) with rfl | rfl | rfl | rfl | rfl | rfl | rfl | rfl | rfl | rfl | rfl | rfl <;> exact rfl
theorem hr2_46_7_1 {D F e r : Nat} {x4 : AV} {g : Vw} (he : e < 12) (h : g 83 1 = e) : vFn (vM MT0 D) nb_X9_hearReplies (F + 1) 2 0 [vR 46, vR 82, vI r, vI 1, x4] [] g = vFn (vM MT0 D) nb_X9_hearReplies F 1 0 [vR 46, vR 82, vI ((r + g (46 + 3 + e) 2) % 4294967296), vI (1 + 1), vI e] [] (vup g (46 + 17 + 3 * 7) e ((g (46 + 17 + 3 * 7) e + 1) % 4294967296)) := by
  refine (vF_g rfl rfl).trans ?_
  refine Eq.trans (b := vB (vM MT0 D) (vFn (vM MT0 D) nb_X9_hearReplies F) hr2T hr2R 0 [vR 46, vR 82, vI r, vI 1, x4] [vI (g 83 1)] g) rfl ?_
  rw [h]
  clear h
  rcases (show e = 0 ∨ e = 1 ∨ e = 2 ∨ e = 3 ∨ e = 4 ∨ e = 5 ∨ e = 6 ∨ e = 7 ∨ e = 8 ∨ e = 9 ∨ e = 10 ∨ e = 11 by omega) with rfl | rfl | rfl | rfl | rfl | rfl | rfl | rfl | rfl | rfl | rfl | rfl <;> exact rfl
theorem ps2_46_7_1 {D F e : Nat} {x3 x4 : AV} {g : Vw} (he : e < 12) (h : g 83 1 = e) : vFn (vM MT0 D) nb_X9_payStaff (F + 1) 2 0 [vR 46, vR 82, vI 1, x3, x4] [] g = vc3 (bv (g 82 4)) (bv (g_imul (g 82 3) (g (46 + 3 + e) 2))) (vFn (vM MT0 D) nb_X9_payStaff F 4 0 [vR 46, vR 82, vI 1, vR (46 + 3 + e), vI (g_imul (g 82 3) (g (46 + 3 + e) 2))] [] g) (vFn (vM MT0 D) nb_X9_payStaff F 3 0 [vR 46, vR 82, vI 1, vR (46 + 3 + e), vI (g_imul (g 82 3) (g (46 + 3 + e) 2))] [] g) (vFn (vM MT0 D) nb_X9_payStaff F 3 0 [vR 46, vR 82, vI 1, vR (46 + 3 + e), vI (g_imul (g 82 3) (g (46 + 3 + e) 2))] [] g) := by
  refine (vF_g rfl rfl).trans ?_
  refine Eq.trans (b := vB (vM MT0 D) (vFn (vM MT0 D) nb_X9_payStaff F) ps2T ps2R 0 [vR 46, vR 82, vI 1, x3, x4] [vI (g 83 1), vR 47] g) rfl ?_
  rw [h]
  clear h
  rcases (show e = 0 ∨ e = 1 ∨ e = 2 ∨ e = 3 ∨ e = 4 ∨ e = 5 ∨ e = 6 ∨ e = 7 ∨ e = 8 ∨ e = 9 ∨ e = 10 ∨ e = 11 by omega) with rfl | rfl | rfl | rfl | rfl | rfl | rfl | rfl | rfl | rfl | rfl | rfl <;> exact rfl
theorem hr2_46_7_2 {D F e r : Nat} {x4 : AV} {g : Vw} (he : e < 12) (h : g 83 2 = e) : vFn (vM MT0 D) nb_X9_hearReplies (F + 1) 2 0 [vR 46, vR 82, vI r, vI 2, x4] [] g = vFn (vM MT0 D) nb_X9_hearReplies F 1 0 [vR 46, vR 82, vI ((r + g (46 + 3 + e) 2) % 4294967296), vI (2 + 1), vI e] [] (vup g (46 + 17 + 3 * 7) e ((g (46 + 17 + 3 * 7) e + 1) % 4294967296)) := by
  refine (vF_g rfl rfl).trans ?_
  refine Eq.trans (b := vB (vM MT0 D) (vFn (vM MT0 D) nb_X9_hearReplies F) hr2T hr2R 0 [vR 46, vR 82, vI r, vI 2, x4] [vI (g 83 2)] g) rfl ?_
  rw [h]
  clear h
  rcases (show e = 0 ∨ e = 1 ∨ e = 2 ∨ e = 3 ∨ e = 4 ∨ e = 5 ∨ e = 6 ∨ e = 7 ∨ e = 8 ∨ e = 9 ∨ e = 10 ∨ e = 11 by omega) with rfl | rfl | rfl | rfl | rfl | rfl | rfl | rfl | rfl | rfl | rfl | rfl <;> exact rfl
theorem ps2_46_7_2 {D F e : Nat} {x3 x4 : AV} {g : Vw} (he : e < 12) (h : g 83 2 = e) : vFn (vM MT0 D) nb_X9_payStaff (F + 1) 2 0 [vR 46, vR 82, vI 2, x3, x4] [] g = vc3 (bv (g 82 4)) (bv (g_imul (g 82 3) (g (46 + 3 + e) 2))) (vFn (vM MT0 D) nb_X9_payStaff F 4 0 [vR 46, vR 82, vI 2, vR (46 + 3 + e), vI (g_imul (g 82 3) (g (46 + 3 + e) 2))] [] g) (vFn (vM MT0 D) nb_X9_payStaff F 3 0 [vR 46, vR 82, vI 2, vR (46 + 3 + e), vI (g_imul (g 82 3) (g (46 + 3 + e) 2))] [] g) (vFn (vM MT0 D) nb_X9_payStaff F 3 0 [vR 46, vR 82, vI 2, vR (46 + 3 + e), vI (g_imul (g 82 3) (g (46 + 3 + e) 2))] [] g) := by
  refine (vF_g rfl rfl).trans ?_
  refine Eq.trans (b := vB (vM MT0 D) (vFn (vM MT0 D) nb_X9_payStaff F) ps2T ps2R 0 [vR 46, vR 82, vI 2, x3, x4] [vI (g 83 2), vR 47] g) rfl ?_
  rw [h]
  clear h
  rcases (show e = 0 ∨ e = 1 ∨ e = 2 ∨ e = 3 ∨ e = 4 ∨ e = 5 ∨ e = 6 ∨ e = 7 ∨ e = 8 ∨ e = 9 ∨ e = 10 ∨ e = 11 by omega) with rfl | rfl | rfl | rfl | rfl | rfl | rfl | rfl | rfl | rfl | rfl | rfl <;> exact rfl
theorem hr1l_46_7 {D F i r : Nat} {x4 : AV} {g : Vw} (h : i < g 82 6) (h3 : g 82 6 ≤ 3) : vFn (vM MT0 D) nb_X9_hearReplies (F + 1) 1 0 [vR 46, vR 82, vI r, vI i, x4] [] g = vFn (vM MT0 D) nb_X9_hearReplies F 2 0 [vR 46, vR 82, vI r, vI i, x4] [] g := by
  refine (vF_g rfl rfl).trans ?_
  refine (vlt (x := i) (y := g 82 6) (by omega) h).trans ?_
  exact rfl
theorem hr1g_46_7 {D F i r : Nat} {x4 : AV} {g : Vw} (h : g 82 6 ≤ i) (h3 : i ≤ 3) : vFn (vM MT0 D) nb_X9_hearReplies (F + 1) 1 0 [vR 46, vR 82, vI r, vI i, x4] [] g = vFn (vM MT0 D) nb_X9_hearReplies F 3 0 [vR 46, vR 82, vI r, vI i, x4] [] g := by
  refine (vF_g rfl rfl).trans ?_
  refine (vge2 (x := i) (y := g 82 6) (by omega) h).trans ?_
  exact rfl
theorem hr3_46_7 {D F r : Nat} {x3 x4 : AV} {g : Vw} : vFn (vM MT0 D) nb_X9_hearReplies (F + 1) 3 0 [vR 46, vR 82, vI r, x3, x4] [] g = some ((1, 0), vW 3, hrE 46 82 r g) := by
  refine (vF_g rfl rfl).trans ?_
  exact rfl
theorem hrL_46_7 {D : Nat} {f : Vw} (h3 : f 82 6 ≤ 3) (hm : ∀ i, i < f 82 6 → f 83 i < 12) : ∀ (m i r F : Nat) (x4 : AV) (g : Vw), i + m = f 82 6 → (∀ a b, a ≠ 46 + 17 + 3 * 7 → g a b = f a b) → ∃ (r' i' : Nat) (y4 : AV) (g' : Vw), vFn (vM MT0 D) nb_X9_hearReplies (F + 2 * m + 1) 1 0 [vR 46, vR 82, vI r, vI i, x4] [] g = vFn (vM MT0 D) nb_X9_hearReplies F 3 0 [vR 46, vR 82, vI r', vI i', y4] [] g' ∧ ∀ a b, a ≠ 46 + 17 + 3 * 7 → g' a b = f a b := by
  intro m
  induction m with
  | zero =>
    intro i r F x4 g hi hg
    have e6 := hg 82 6 (by decide)
    rw [show F + 2 * 0 + 1 = F + 1 by omega]
    exact ⟨r, i, x4, g, hr1g_46_7 (by omega) (by omega), hg⟩
  | succ m ih =>
    intro i r F x4 g hi hg
    have e6 := hg 82 6 (by decide)
    have e1 := hg 83 i (by decide)
    have he := hm i (by omega)
    have hs : ∀ r9 : Nat, vFn (vM MT0 D) nb_X9_hearReplies (F + 2 * m + 1 + 1) 2 0 [vR 46, vR 82, vI r, vI i, x4] [] g = vFn (vM MT0 D) nb_X9_hearReplies (F + 2 * m + 1) 1 0 [vR 46, vR 82, vI ((r + g (46 + 3 + f 83 i) 2) % 4294967296), vI (i + 1), vI (f 83 i)] [] (vup g (46 + 17 + 3 * 7) (f 83 i) ((g (46 + 17 + 3 * 7) (f 83 i) + 1) % 4294967296)) := fun _ => by
      rcases (show i = 0 ∨ i = 1 ∨ i = 2 by omega) with q | q | q
      · subst q; exact hr2_46_7_0 he e1
      · subst q; exact hr2_46_7_1 he e1
      · subst q; exact hr2_46_7_2 he e1
    obtain ⟨r', i', y4, g', k1, k2⟩ := ih (i + 1) ((r + g (46 + 3 + f 83 i) 2) % 4294967296) F (vI (f 83 i)) (vup g (46 + 17 + 3 * 7) (f 83 i) ((g (46 + 17 + 3 * 7) (f 83 i) + 1) % 4294967296)) (by omega) (fun a b h => (vup_ne (Or.inl h)).trans (hg a b h))
    refine ⟨r', i', y4, g', ?_, k2⟩
    rw [show F + 2 * (m + 1) + 1 = F + 2 * m + 1 + 1 + 1 by omega]
    exact (hr1l_46_7 (by omega) (by omega)).trans ((hs 0).trans k1)
theorem hr_46_7 {D : Nat} {f : Vw} (hj : 7 < f 46 3) (h8 : f 46 3 ≤ 8) (h2 : f 46 2 ≤ 12) (h3 : f 82 6 ≤ 3) (hm : ∀ i, i < f 82 6 → f 83 i < 12) : ∃ g, vM MT0 (D + 1) 89 [vR 46, vR 82] f = some ((1, 0), vW 3, g) ∧ FrW 46 f g := by
  obtain ⟨F, hF, go⟩ := vM_at (D := D) (y := 89) (as := [vR 46, vR 82]) (f := f) rfl rfl rfl rfl
  obtain ⟨r', i', y4, g', k1, k2⟩ := hrL_46_7 (D := D) h3 hm (f 82 6) 0 0 (F + 57 - 2 * f 82 6 + 1) (vW 3) f (by omega) (fun _ _ _ => rfl)
  rw [show F + 57 - 2 * f 82 6 + 1 + 2 * f 82 6 + 1 = F + 59 by omega] at k1
  have e0 : vFn (vM MT0 D) nb_X9_hearReplies (F + 60) 0 0 (iniL 5 [vR 46, vR 82]) [] f = vFn (vM MT0 D) nb_X9_hearReplies (F + 59) 1 0 [vR 46, vR 82, vI 0, vI 0, vW 3] [] f := by
    refine (vF_g rfl rfl).trans ?_
    exact rfl
  exact ⟨_, go _ (e0.trans (k1.trans hr3_46_7)), hr_F hj h8 k2⟩
theorem ps1l_46_7 {D F i : Nat} {x3 x4 : AV} {g : Vw} (h : i < g 82 6) (h3 : g 82 6 ≤ 3) : vFn (vM MT0 D) nb_X9_payStaff (F + 1) 1 0 [vR 46, vR 82, vI i, x3, x4] [] g = vFn (vM MT0 D) nb_X9_payStaff F 2 0 [vR 46, vR 82, vI i, x3, x4] [] g := by
  refine (vF_g rfl rfl).trans ?_
  refine (vlt (x := i) (y := g 82 6) (by omega) h).trans ?_
  exact rfl
theorem ps1g_46_7 {D F i : Nat} {x3 x4 : AV} {g : Vw} (h : g 82 6 ≤ i) (h3 : i ≤ 3) : vFn (vM MT0 D) nb_X9_payStaff (F + 2) 1 0 [vR 46, vR 82, vI i, x3, x4] [] g = some ((1, 0), vW 3, g) := by
  refine (vF_g rfl rfl).trans ?_
  refine (vge2 (x := i) (y := g 82 6) (by omega) h).trans ?_
  refine (vF_g rfl rfl).trans ?_
  exact rfl
theorem ps3_46_7 {D F i e p : Nat} {g : Vw} (he : e < 12) (hi : i < 3) : vFn (vM MT0 D) nb_X9_payStaff (F + 2) 3 0 [vR 46, vR 82, vI i, vR (46 + 3 + e), vI p] [] g = vFn (vM MT0 D) nb_X9_payStaff F 1 0 [vR 46, vR 82, vI (i + 1), vR (46 + 3 + e), vI p] [] (psE 82 (46 + 3 + e) p g) := by
  rcases (show i = 0 ∨ i = 1 ∨ i = 2 by omega) with q | q | q <;> subst q <;> rcases (show e = 0 ∨ e = 1 ∨ e = 2 ∨ e = 3 ∨ e = 4 ∨ e = 5 ∨ e = 6 ∨ e = 7 ∨ e = 8 ∨ e = 9 ∨ e = 10 ∨ e = 11 by omega) with rfl | rfl | rfl | rfl | rfl | rfl | rfl | rfl | rfl | rfl | rfl | rfl <;> (refine (vF_g rfl rfl).trans ?_; refine (vF_g rfl rfl).trans ?_; exact rfl)
theorem ps4_46_7 {D F i e p : Nat} {g : Vw} (he : e < 12) (hi : i < 3) : vFn (vM MT0 D) nb_X9_payStaff (F + 2) 4 0 [vR 46, vR 82, vI i, vR (46 + 3 + e), vI p] [] g = vFn (vM MT0 D) nb_X9_payStaff F 1 0 [vR 46, vR 82, vI (i + 1), vR (46 + 3 + e), vI p] [] (vup g (46 + 3 + e) 6 ((g (46 + 3 + e) 6 + 1) % 4294967296)) := by
  rcases (show i = 0 ∨ i = 1 ∨ i = 2 by omega) with q | q | q <;> subst q <;> rcases (show e = 0 ∨ e = 1 ∨ e = 2 ∨ e = 3 ∨ e = 4 ∨ e = 5 ∨ e = 6 ∨ e = 7 ∨ e = 8 ∨ e = 9 ∨ e = 10 ∨ e = 11 by omega) with rfl | rfl | rfl | rfl | rfl | rfl | rfl | rfl | rfl | rfl | rfl | rfl <;> (refine (vF_g rfl rfl).trans ?_; refine (vF_g rfl rfl).trans ?_; exact rfl)
theorem psL_46_7 {D : Nat} {f : Vw} (hj : 7 < f 46 3) (h8 : f 46 3 ≤ 8) (h2 : f 46 2 ≤ 12) (h3 : f 82 6 ≤ 3) (hm : ∀ i, i < f 82 6 → f 83 i < 12) : ∀ (m i F : Nat) (x3 x4 : AV) (g : Vw), i + m = f 82 6 → FrW 46 f g → ∃ g' : Vw, vFn (vM MT0 D) nb_X9_payStaff (F + 4 * m + 2) 1 0 [vR 46, vR 82, vI i, x3, x4] [] g = some ((1, 0), vW 3, g') ∧ FrW 46 f g' := by
  intro m
  induction m with
  | zero =>
    intro i F x3 x4 g hi hg
    have e6 : g 82 6 = f 82 6 := hg 82 6 (Or.inr (Or.inr (Or.inr (Or.inr ⟨7, by decide, Or.inl ⟨by decide, by decide, by decide, by decide⟩⟩))))
    rw [show F + 4 * 0 + 2 = F + 2 by omega]
    exact ⟨g, ps1g_46_7 (by omega) (by omega), hg⟩
  | succ m ih =>
    intro i F x3 x4 g hi hg
    have e6 : g 82 6 = f 82 6 := hg 82 6 (Or.inr (Or.inr (Or.inr (Or.inr ⟨7, by decide, Or.inl ⟨by decide, by decide, by decide, by decide⟩⟩))))
    have e1 : g 83 i = f 83 i := hg 83 i (Or.inr (Or.inr (Or.inr (Or.inr ⟨7, by decide, Or.inr (by decide)⟩))))
    have e2 : g 46 2 = f 46 2 := hg 46 2 (Or.inr (Or.inr (Or.inl ⟨rfl, by decide⟩)))
    have e3 : g 46 3 = f 46 3 := hg 46 3 (Or.inr (Or.inr (Or.inl ⟨rfl, by decide⟩)))
    have he := hm i (by omega)
    have he9 : f 83 i < 12 := by omega
    have hi3 : i < 3 := by omega
    rw [show F + 4 * (m + 1) + 2 = F + 4 * m + 2 + 2 + 1 + 1 by omega]
    have hs : ∃ G : Vw, vFn (vM MT0 D) nb_X9_payStaff (F + 4 * m + 2 + 2 + 1) 2 0 [vR 46, vR 82, vI i, x3, x4] [] g = vFn (vM MT0 D) nb_X9_payStaff (F + 4 * m + 2) 1 0 [vR 46, vR 82, vI (i + 1), vR (46 + 3 + f 83 i), vI (g_imul (g 82 3) (g (46 + 3 + f 83 i) 2))] [] G ∧ FrW 46 g G := by
      have hc := (show vFn (vM MT0 D) nb_X9_payStaff (F + 4 * m + 2 + 2 + 1) 2 0 [vR 46, vR 82, vI i, x3, x4] [] g = vc3 (bv (g 82 4)) (bv (g_imul (g 82 3) (g (46 + 3 + f 83 i) 2))) (vFn (vM MT0 D) nb_X9_payStaff (F + 4 * m + 2 + 2) 4 0 [vR 46, vR 82, vI i, vR (46 + 3 + f 83 i), vI (g_imul (g 82 3) (g (46 + 3 + f 83 i) 2))] [] g) (vFn (vM MT0 D) nb_X9_payStaff (F + 4 * m + 2 + 2) 3 0 [vR 46, vR 82, vI i, vR (46 + 3 + f 83 i), vI (g_imul (g 82 3) (g (46 + 3 + f 83 i) 2))] [] g) (vFn (vM MT0 D) nb_X9_payStaff (F + 4 * m + 2 + 2) 3 0 [vR 46, vR 82, vI i, vR (46 + 3 + f 83 i), vI (g_imul (g 82 3) (g (46 + 3 + f 83 i) 2))] [] g) from by
        rcases (show i = 0 ∨ i = 1 ∨ i = 2 by omega) with q | q | q
        · subst q; exact ps2_46_7_0 he9 e1
        · subst q; exact ps2_46_7_1 he9 e1
        · subst q; exact ps2_46_7_2 he9 e1)
      rcases vc3_or (u := bv (g 82 4)) (w := bv (g_imul (g 82 3) (g (46 + 3 + f 83 i) 2))) (a := vFn (vM MT0 D) nb_X9_payStaff (F + 4 * m + 2 + 2) 4 0 [vR 46, vR 82, vI i, vR (46 + 3 + f 83 i), vI (g_imul (g 82 3) (g (46 + 3 + f 83 i) 2))] [] g) (b := vFn (vM MT0 D) nb_X9_payStaff (F + 4 * m + 2 + 2) 3 0 [vR 46, vR 82, vI i, vR (46 + 3 + f 83 i), vI (g_imul (g 82 3) (g (46 + 3 + f 83 i) 2))] [] g) with q | q
      · exact ⟨_, hc.trans (q.trans (ps4_46_7 he9 hi3)), un_F (j := 7) (by omega) (by omega) (by omega)⟩
      · exact ⟨_, hc.trans (q.trans (ps3_46_7 he9 hi3)), ps_F (j := 7) (by omega) (by omega) (by omega) (by omega)⟩
    obtain ⟨G, s1, s2⟩ := hs
    obtain ⟨g', k1, k2⟩ := ih (i + 1) F (vR (46 + 3 + f 83 i)) (vI (g_imul (g 82 3) (g (46 + 3 + f 83 i) 2))) G (by omega) (frW_tr hg s2)
    exact ⟨g', (ps1l_46_7 (by omega) (by omega)).trans (s1.trans k1), k2⟩
theorem ps_46_7 {D : Nat} {f : Vw} (hj : 7 < f 46 3) (h8 : f 46 3 ≤ 8) (h2 : f 46 2 ≤ 12) (h3 : f 82 6 ≤ 3) (hm : ∀ i, i < f 82 6 → f 83 i < 12) : ∃ g, vM MT0 (D + 1) 90 [vR 46, vR 82] f = some ((1, 0), vW 3, g) ∧ FrW 46 f g := by
  obtain ⟨F, hF, go⟩ := vM_at (D := D) (y := 90) (as := [vR 46, vR 82]) (f := f) rfl rfl rfl rfl
  obtain ⟨g', k1, k2⟩ := psL_46_7 (D := D) hj h8 h2 h3 hm (f 82 6) 0 (F + 57 - 4 * f 82 6) (vW 3) (vW 3) f (by omega) frW_rf
  rw [show F + 57 - 4 * f 82 6 + 4 * f 82 6 + 2 = F + 59 by omega] at k1
  have e0 : vFn (vM MT0 D) nb_X9_payStaff (F + 60) 0 0 (iniL 5 [vR 46, vR 82]) [] f = vFn (vM MT0 D) nb_X9_payStaff (F + 59) 1 0 [vR 46, vR 82, vI 0, vW 3, vW 3] [] f := by
    refine (vF_g rfl rfl).trans ?_
    exact rfl
  exact ⟨g', go _ (e0.trans k1), k2⟩
theorem wk1l_46 {D F v : Nat} {g : Vw} (h : v < g 46 3) (h8 : g 46 3 ≤ 8) : vFn (vM MT0 D) nb_X9_work (F + 1) 1 0 [vR 46, vI v] [] g = vFn (vM MT0 D) nb_X9_work F 2 0 [vR 46, vI v] [] g := by
  refine (vF_g rfl rfl).trans ?_
  refine (vlt (x := v) (y := g 46 3) (by omega) h).trans ?_
  exact rfl
theorem wk1g_46 {D F v : Nat} {g : Vw} (h : g 46 3 ≤ v) (h8 : v ≤ 8) : vFn (vM MT0 D) nb_X9_work (F + 2) 1 0 [vR 46, vI v] [] g = some ((1, 0), vW 3, g) := by
  refine (vF_g rfl rfl).trans ?_
  refine (vge2 (x := v) (y := g 46 3) (by omega) h).trans ?_
  refine (vF_g rfl rfl).trans ?_
  exact rfl
theorem wk2_46_0 {D F : Nat} {f : Vw} (hj : 0 < f 46 3) (h8 : f 46 3 ≤ 8) (h2 : f 46 2 ≤ 12) (h3 : f 61 6 ≤ 3) (hm : ∀ i, i < f 61 6 → f 62 i < 12) : ∃ g, vFn (vM MT0 (D + 1)) nb_X9_work (F + 1) 2 0 [vR 46, vI 0] [] f = vFn (vM MT0 (D + 1)) nb_X9_work F 1 0 [vR 46, vI (0 + 1)] [] g ∧ FrW 46 f g := by
  obtain ⟨g, e, hg⟩ := hr_46_0 (D := D) hj h8 h2 h3 (fun i hi => by have := hm i hi; omega)
  have e6 : g 61 6 = f 61 6 := hg 61 6 (Or.inr (Or.inr (Or.inr (Or.inr ⟨0, by decide, Or.inl ⟨by decide, by decide, by decide, by decide⟩⟩))))
  have e1 : ∀ i, g 62 i = f 62 i := fun i => hg 62 i (Or.inr (Or.inr (Or.inr (Or.inr ⟨0, by decide, Or.inr (by decide)⟩))))
  have e2 : g 46 2 = f 46 2 := hg 46 2 (Or.inr (Or.inr (Or.inl ⟨rfl, by decide⟩)))
  have e3 : g 46 3 = f 46 3 := hg 46 3 (Or.inr (Or.inr (Or.inl ⟨rfl, by decide⟩)))
  obtain ⟨g', e', hg'⟩ := ps_46_0 (D := D) (f := g) (by omega) (by omega) (by omega) (by omega) (fun i hi => by rw [e1]; exact hm i (by omega))
  refine ⟨g', ?_, frW_tr hg hg'⟩
  refine (vF_g rfl rfl).trans ?_
  refine (vbnd_1 e).trans ?_
  refine (vbnd_1 e').trans ?_
  exact rfl
theorem wk2_46_1 {D F : Nat} {f : Vw} (hj : 1 < f 46 3) (h8 : f 46 3 ≤ 8) (h2 : f 46 2 ≤ 12) (h3 : f 64 6 ≤ 3) (hm : ∀ i, i < f 64 6 → f 65 i < 12) : ∃ g, vFn (vM MT0 (D + 1)) nb_X9_work (F + 1) 2 0 [vR 46, vI 1] [] f = vFn (vM MT0 (D + 1)) nb_X9_work F 1 0 [vR 46, vI (1 + 1)] [] g ∧ FrW 46 f g := by
  obtain ⟨g, e, hg⟩ := hr_46_1 (D := D) hj h8 h2 h3 (fun i hi => by have := hm i hi; omega)
  have e6 : g 64 6 = f 64 6 := hg 64 6 (Or.inr (Or.inr (Or.inr (Or.inr ⟨1, by decide, Or.inl ⟨by decide, by decide, by decide, by decide⟩⟩))))
  have e1 : ∀ i, g 65 i = f 65 i := fun i => hg 65 i (Or.inr (Or.inr (Or.inr (Or.inr ⟨1, by decide, Or.inr (by decide)⟩))))
  have e2 : g 46 2 = f 46 2 := hg 46 2 (Or.inr (Or.inr (Or.inl ⟨rfl, by decide⟩)))
  have e3 : g 46 3 = f 46 3 := hg 46 3 (Or.inr (Or.inr (Or.inl ⟨rfl, by decide⟩)))
  obtain ⟨g', e', hg'⟩ := ps_46_1 (D := D) (f := g) (by omega) (by omega) (by omega) (by omega) (fun i hi => by rw [e1]; exact hm i (by omega))
  refine ⟨g', ?_, frW_tr hg hg'⟩
  refine (vF_g rfl rfl).trans ?_
  refine (vbnd_1 e).trans ?_
  refine (vbnd_1 e').trans ?_
  exact rfl
theorem wk2_46_2 {D F : Nat} {f : Vw} (hj : 2 < f 46 3) (h8 : f 46 3 ≤ 8) (h2 : f 46 2 ≤ 12) (h3 : f 67 6 ≤ 3) (hm : ∀ i, i < f 67 6 → f 68 i < 12) : ∃ g, vFn (vM MT0 (D + 1)) nb_X9_work (F + 1) 2 0 [vR 46, vI 2] [] f = vFn (vM MT0 (D + 1)) nb_X9_work F 1 0 [vR 46, vI (2 + 1)] [] g ∧ FrW 46 f g := by
  obtain ⟨g, e, hg⟩ := hr_46_2 (D := D) hj h8 h2 h3 (fun i hi => by have := hm i hi; omega)
  have e6 : g 67 6 = f 67 6 := hg 67 6 (Or.inr (Or.inr (Or.inr (Or.inr ⟨2, by decide, Or.inl ⟨by decide, by decide, by decide, by decide⟩⟩))))
  have e1 : ∀ i, g 68 i = f 68 i := fun i => hg 68 i (Or.inr (Or.inr (Or.inr (Or.inr ⟨2, by decide, Or.inr (by decide)⟩))))
  have e2 : g 46 2 = f 46 2 := hg 46 2 (Or.inr (Or.inr (Or.inl ⟨rfl, by decide⟩)))
  have e3 : g 46 3 = f 46 3 := hg 46 3 (Or.inr (Or.inr (Or.inl ⟨rfl, by decide⟩)))
  obtain ⟨g', e', hg'⟩ := ps_46_2 (D := D) (f := g) (by omega) (by omega) (by omega) (by omega) (fun i hi => by rw [e1]; exact hm i (by omega))
  refine ⟨g', ?_, frW_tr hg hg'⟩
  refine (vF_g rfl rfl).trans ?_
  refine (vbnd_1 e).trans ?_
  refine (vbnd_1 e').trans ?_
  exact rfl
theorem wk2_46_3 {D F : Nat} {f : Vw} (hj : 3 < f 46 3) (h8 : f 46 3 ≤ 8) (h2 : f 46 2 ≤ 12) (h3 : f 70 6 ≤ 3) (hm : ∀ i, i < f 70 6 → f 71 i < 12) : ∃ g, vFn (vM MT0 (D + 1)) nb_X9_work (F + 1) 2 0 [vR 46, vI 3] [] f = vFn (vM MT0 (D + 1)) nb_X9_work F 1 0 [vR 46, vI (3 + 1)] [] g ∧ FrW 46 f g := by
  obtain ⟨g, e, hg⟩ := hr_46_3 (D := D) hj h8 h2 h3 (fun i hi => by have := hm i hi; omega)
  have e6 : g 70 6 = f 70 6 := hg 70 6 (Or.inr (Or.inr (Or.inr (Or.inr ⟨3, by decide, Or.inl ⟨by decide, by decide, by decide, by decide⟩⟩))))
  have e1 : ∀ i, g 71 i = f 71 i := fun i => hg 71 i (Or.inr (Or.inr (Or.inr (Or.inr ⟨3, by decide, Or.inr (by decide)⟩))))
  have e2 : g 46 2 = f 46 2 := hg 46 2 (Or.inr (Or.inr (Or.inl ⟨rfl, by decide⟩)))
  have e3 : g 46 3 = f 46 3 := hg 46 3 (Or.inr (Or.inr (Or.inl ⟨rfl, by decide⟩)))
  obtain ⟨g', e', hg'⟩ := ps_46_3 (D := D) (f := g) (by omega) (by omega) (by omega) (by omega) (fun i hi => by rw [e1]; exact hm i (by omega))
  refine ⟨g', ?_, frW_tr hg hg'⟩
  refine (vF_g rfl rfl).trans ?_
  refine (vbnd_1 e).trans ?_
  refine (vbnd_1 e').trans ?_
  exact rfl
theorem wk2_46_4 {D F : Nat} {f : Vw} (hj : 4 < f 46 3) (h8 : f 46 3 ≤ 8) (h2 : f 46 2 ≤ 12) (h3 : f 73 6 ≤ 3) (hm : ∀ i, i < f 73 6 → f 74 i < 12) : ∃ g, vFn (vM MT0 (D + 1)) nb_X9_work (F + 1) 2 0 [vR 46, vI 4] [] f = vFn (vM MT0 (D + 1)) nb_X9_work F 1 0 [vR 46, vI (4 + 1)] [] g ∧ FrW 46 f g := by
  obtain ⟨g, e, hg⟩ := hr_46_4 (D := D) hj h8 h2 h3 (fun i hi => by have := hm i hi; omega)
  have e6 : g 73 6 = f 73 6 := hg 73 6 (Or.inr (Or.inr (Or.inr (Or.inr ⟨4, by decide, Or.inl ⟨by decide, by decide, by decide, by decide⟩⟩))))
  have e1 : ∀ i, g 74 i = f 74 i := fun i => hg 74 i (Or.inr (Or.inr (Or.inr (Or.inr ⟨4, by decide, Or.inr (by decide)⟩))))
  have e2 : g 46 2 = f 46 2 := hg 46 2 (Or.inr (Or.inr (Or.inl ⟨rfl, by decide⟩)))
  have e3 : g 46 3 = f 46 3 := hg 46 3 (Or.inr (Or.inr (Or.inl ⟨rfl, by decide⟩)))
  obtain ⟨g', e', hg'⟩ := ps_46_4 (D := D) (f := g) (by omega) (by omega) (by omega) (by omega) (fun i hi => by rw [e1]; exact hm i (by omega))
  refine ⟨g', ?_, frW_tr hg hg'⟩
  refine (vF_g rfl rfl).trans ?_
  refine (vbnd_1 e).trans ?_
  refine (vbnd_1 e').trans ?_
  exact rfl
theorem wk2_46_5 {D F : Nat} {f : Vw} (hj : 5 < f 46 3) (h8 : f 46 3 ≤ 8) (h2 : f 46 2 ≤ 12) (h3 : f 76 6 ≤ 3) (hm : ∀ i, i < f 76 6 → f 77 i < 12) : ∃ g, vFn (vM MT0 (D + 1)) nb_X9_work (F + 1) 2 0 [vR 46, vI 5] [] f = vFn (vM MT0 (D + 1)) nb_X9_work F 1 0 [vR 46, vI (5 + 1)] [] g ∧ FrW 46 f g := by
  obtain ⟨g, e, hg⟩ := hr_46_5 (D := D) hj h8 h2 h3 (fun i hi => by have := hm i hi; omega)
  have e6 : g 76 6 = f 76 6 := hg 76 6 (Or.inr (Or.inr (Or.inr (Or.inr ⟨5, by decide, Or.inl ⟨by decide, by decide, by decide, by decide⟩⟩))))
  have e1 : ∀ i, g 77 i = f 77 i := fun i => hg 77 i (Or.inr (Or.inr (Or.inr (Or.inr ⟨5, by decide, Or.inr (by decide)⟩))))
  have e2 : g 46 2 = f 46 2 := hg 46 2 (Or.inr (Or.inr (Or.inl ⟨rfl, by decide⟩)))
  have e3 : g 46 3 = f 46 3 := hg 46 3 (Or.inr (Or.inr (Or.inl ⟨rfl, by decide⟩)))
  obtain ⟨g', e', hg'⟩ := ps_46_5 (D := D) (f := g) (by omega) (by omega) (by omega) (by omega) (fun i hi => by rw [e1]; exact hm i (by omega))
  refine ⟨g', ?_, frW_tr hg hg'⟩
  refine (vF_g rfl rfl).trans ?_
  refine (vbnd_1 e).trans ?_
  refine (vbnd_1 e').trans ?_
  exact rfl
theorem wk2_46_6 {D F : Nat} {f : Vw} (hj : 6 < f 46 3) (h8 : f 46 3 ≤ 8) (h2 : f 46 2 ≤ 12) (h3 : f 79 6 ≤ 3) (hm : ∀ i, i < f 79 6 → f 80 i < 12) : ∃ g, vFn (vM MT0 (D + 1)) nb_X9_work (F + 1) 2 0 [vR 46, vI 6] [] f = vFn (vM MT0 (D + 1)) nb_X9_work F 1 0 [vR 46, vI (6 + 1)] [] g ∧ FrW 46 f g := by
  obtain ⟨g, e, hg⟩ := hr_46_6 (D := D) hj h8 h2 h3 (fun i hi => by have := hm i hi; omega)
  have e6 : g 79 6 = f 79 6 := hg 79 6 (Or.inr (Or.inr (Or.inr (Or.inr ⟨6, by decide, Or.inl ⟨by decide, by decide, by decide, by decide⟩⟩))))
  have e1 : ∀ i, g 80 i = f 80 i := fun i => hg 80 i (Or.inr (Or.inr (Or.inr (Or.inr ⟨6, by decide, Or.inr (by decide)⟩))))
  have e2 : g 46 2 = f 46 2 := hg 46 2 (Or.inr (Or.inr (Or.inl ⟨rfl, by decide⟩)))
  have e3 : g 46 3 = f 46 3 := hg 46 3 (Or.inr (Or.inr (Or.inl ⟨rfl, by decide⟩)))
  obtain ⟨g', e', hg'⟩ := ps_46_6 (D := D) (f := g) (by omega) (by omega) (by omega) (by omega) (fun i hi => by rw [e1]; exact hm i (by omega))
  refine ⟨g', ?_, frW_tr hg hg'⟩
  refine (vF_g rfl rfl).trans ?_
  refine (vbnd_1 e).trans ?_
  refine (vbnd_1 e').trans ?_
  exact rfl
theorem wk2_46_7 {D F : Nat} {f : Vw} (hj : 7 < f 46 3) (h8 : f 46 3 ≤ 8) (h2 : f 46 2 ≤ 12) (h3 : f 82 6 ≤ 3) (hm : ∀ i, i < f 82 6 → f 83 i < 12) : ∃ g, vFn (vM MT0 (D + 1)) nb_X9_work (F + 1) 2 0 [vR 46, vI 7] [] f = vFn (vM MT0 (D + 1)) nb_X9_work F 1 0 [vR 46, vI (7 + 1)] [] g ∧ FrW 46 f g := by
  obtain ⟨g, e, hg⟩ := hr_46_7 (D := D) hj h8 h2 h3 (fun i hi => by have := hm i hi; omega)
  have e6 : g 82 6 = f 82 6 := hg 82 6 (Or.inr (Or.inr (Or.inr (Or.inr ⟨7, by decide, Or.inl ⟨by decide, by decide, by decide, by decide⟩⟩))))
  have e1 : ∀ i, g 83 i = f 83 i := fun i => hg 83 i (Or.inr (Or.inr (Or.inr (Or.inr ⟨7, by decide, Or.inr (by decide)⟩))))
  have e2 : g 46 2 = f 46 2 := hg 46 2 (Or.inr (Or.inr (Or.inl ⟨rfl, by decide⟩)))
  have e3 : g 46 3 = f 46 3 := hg 46 3 (Or.inr (Or.inr (Or.inl ⟨rfl, by decide⟩)))
  obtain ⟨g', e', hg'⟩ := ps_46_7 (D := D) (f := g) (by omega) (by omega) (by omega) (by omega) (fun i hi => by rw [e1]; exact hm i (by omega))
  refine ⟨g', ?_, frW_tr hg hg'⟩
  refine (vF_g rfl rfl).trans ?_
  refine (vbnd_1 e).trans ?_
  refine (vbnd_1 e').trans ?_
  exact rfl
theorem wkL_46 {D : Nat} {f : Vw} (h8 : f 46 3 ≤ 8) (h2 : f 46 2 ≤ 12) (hs : StfD f 46) : ∀ (m v F : Nat) (g : Vw), v + m = f 46 3 → FrW 46 f g → ∃ g', vFn (vM MT0 (D + 1)) nb_X9_work (F + 2 * m + 2) 1 0 [vR 46, vI v] [] g = some ((1, 0), vW 3, g') ∧ FrW 46 f g' := by
  intro m
  induction m with
  | zero =>
    intro v F g hv hg
    have e3 : g 46 3 = f 46 3 := hg 46 3 (Or.inr (Or.inr (Or.inl ⟨rfl, by decide⟩)))
    rw [show F + 2 * 0 + 2 = F + 2 by omega]
    exact ⟨g, wk1g_46 (by omega) (by omega), hg⟩
  | succ m ih =>
    intro v F g hv hg
    have e2 : g 46 2 = f 46 2 := hg 46 2 (Or.inr (Or.inr (Or.inl ⟨rfl, by decide⟩)))
    have e3 : g 46 3 = f 46 3 := hg 46 3 (Or.inr (Or.inr (Or.inl ⟨rfl, by decide⟩)))
    have sg9 := stfD_fr h8 hg hs
    have st : ∃ G, vFn (vM MT0 (D + 1)) nb_X9_work (F + 2 * m + 2 + 1) 2 0 [vR 46, vI v] [] g = vFn (vM MT0 (D + 1)) nb_X9_work (F + 2 * m + 2) 1 0 [vR 46, vI (v + 1)] [] G ∧ FrW 46 g G := by
      obtain ⟨q1, q2⟩ := sg9 v (by omega)
      rcases (show v = 0 ∨ v = 1 ∨ v = 2 ∨ v = 3 ∨ v = 4 ∨ v = 5 ∨ v = 6 ∨ v = 7 by omega) with q | q | q | q | q | q | q | q
      · subst q; exact wk2_46_0 (by omega) (by omega) (by omega) q1 q2
      · subst q; exact wk2_46_1 (by omega) (by omega) (by omega) q1 q2
      · subst q; exact wk2_46_2 (by omega) (by omega) (by omega) q1 q2
      · subst q; exact wk2_46_3 (by omega) (by omega) (by omega) q1 q2
      · subst q; exact wk2_46_4 (by omega) (by omega) (by omega) q1 q2
      · subst q; exact wk2_46_5 (by omega) (by omega) (by omega) q1 q2
      · subst q; exact wk2_46_6 (by omega) (by omega) (by omega) q1 q2
      · subst q; exact wk2_46_7 (by omega) (by omega) (by omega) q1 q2
    obtain ⟨G, s1, s2⟩ := st
    obtain ⟨g', k1, k2⟩ := ih (v + 1) F G (by omega) (frW_tr hg s2)
    refine ⟨g', ?_, k2⟩
    rw [show F + 2 * (m + 1) + 2 = F + 2 * m + 2 + 1 + 1 by omega]
    exact (wk1l_46 (by omega) (by omega)).trans (s1.trans k1)
theorem v_work_46 {D : Nat} {f : Vw} (h8 : f 46 3 ≤ 8) (h2 : f 46 2 ≤ 12) (hs : StfD f 46) : ∃ g, vM MT0 (D + 2) 88 [vR 46] f = some ((1, 0), vW 3, g) ∧ FrW 46 f g := by
  obtain ⟨F, hF, go⟩ := vM_at (D := D + 1) (y := 88) (as := [vR 46]) (f := f) rfl rfl rfl rfl
  obtain ⟨g', k1, k2⟩ := wkL_46 (D := D) h8 h2 hs (f 46 3) 0 (F + 57 - 2 * f 46 3) f (by omega) frW_rf
  rw [show F + 57 - 2 * f 46 3 + 2 * f 46 3 + 2 = F + 59 by omega] at k1
  have e0 : vFn (vM MT0 (D + 1)) nb_X9_work (F + 60) 0 0 (iniL 2 [vR 46]) [] f = vFn (vM MT0 (D + 1)) nb_X9_work (F + 59) 1 0 [vR 46, vI 0] [] f := by
    refine (vF_g rfl rfl).trans ?_
    exact rfl
  exact ⟨g', go _ (e0.trans k1), k2⟩
