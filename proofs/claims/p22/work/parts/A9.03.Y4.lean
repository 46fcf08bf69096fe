/-! the staff on views: hire, release, employ, sign, endContract; putMoney, teach -/
noncomputable def rg9 (h : Nat → Nat) (n : Nat) : List Nat := Nat.rec [] (fun i l => l ++ [h i]) n
theorem rg9_s {h : Nat → Nat} {n : Nat} : rg9 h (n + 1) = rg9 h n ++ [h n] := rfl
theorem rg9_eq {g h : Nat → Nat} : ∀ n : Nat, (∀ i, i < n → g i = h i) → rg9 g n = rg9 h n := by
  intro n
  induction n with
  | zero => intro _; rfl
  | succ n ih =>
    intro e
    rw [rg9_s, rg9_s, ih (fun i hi => e i (by omega)), e n (by omega)]
theorem rg9_mem {h : Nat → Nat} {x : Nat} : ∀ n : Nat, x ∈ rg9 h n ↔ ∃ i, i < n ∧ h i = x := by
  intro n
  induction n with
  | zero =>
    constructor
    · intro q
      have q : x ∈ ([] : List Nat) := q
      cases q
    · rintro ⟨i, hi, -⟩
      omega
  | succ n ih =>
    rw [rg9_s, List.mem_append, ih, List.mem_singleton]
    constructor
    · rintro (⟨i, h1, h2⟩ | q)
      · exact ⟨i, by omega, h2⟩
      · exact ⟨n, by omega, q.symm⟩
    · rintro ⟨i, h1, h2⟩
      by_cases q : i = n
      · subst q; exact Or.inr h2.symm
      · exact Or.inl ⟨i, by omega, h2⟩
theorem rg9_len {h : Nat → Nat} : ∀ n : Nat, (rg9 h n).length = n := by
  intro n
  induction n with
  | zero => rfl
  | succ n ih => rw [rg9_s, List.length_append, ih]; rfl
/-- a staff, the oldest contract first -/
noncomputable def stLm (f : Vw) (V : Nat) : List Nat := rg9 (f (V + 1)) (f V 6)
theorem stL_all {f : Vw} {V k : Nat} : (∀ x ∈ stLm f V, x < k) ↔ ∀ i, i < f V 6 → f (V + 1) i < k :=
  ⟨fun h i hi => h _ ((rg9_mem _).mpr ⟨i, hi, rfl⟩), fun h x hx => by obtain ⟨i, h1, h2⟩ := (rg9_mem _).mp hx; rw [← h2]; exact h i h1⟩
/-- a contract of the staff ends, a contract comes -/
def RlR (V e : Nat) (f g : Vw) : Prop := stLm g V = (stLm f V).filter (fun x => decide (x ≠ e)) ∧ g V 6 ≤ 3 ∧ ∀ a b, a ≠ V + 1 → (a ≠ V ∨ b ≠ 6) → g a b = f a b
def HrR (V e : Nat) (f g : Vw) : Prop := stLm g V = (if f V 6 < 3 then stLm f V ++ [e] else stLm f V) ∧ g V 6 ≤ 3 ∧ ∀ a b, a ≠ V + 1 → (a ≠ V ∨ b ≠ 6) → g a b = f a b
noncomputable def hrG (V e : Nat) (f : Vw) : Vw := vup (vup f (V + 1) (f V 6) e) V 6 (f V 6 + 1)
theorem hrG_R {V e : Nat} {f : Vw} (h : f V 6 < 3) : HrR V e f (hrG V e f) := by
  have e6 : hrG V e f V 6 = f V 6 + 1 := vup_eq
  have ei : ∀ i, i ≠ f V 6 → hrG V e f (V + 1) i = f (V + 1) i := fun i hi => (vup_ne (Or.inl (by omega))).trans (vup_ne (Or.inr hi))
  have ee : hrG V e f (V + 1) (f V 6) = e := (vup_ne (Or.inl (by omega))).trans vup_eq
  refine ⟨?_, by omega, fun a b h1 h2 => (vup_ne (by omega)).trans (vup_ne (Or.inl h1))⟩
  rw [if_pos h]
  show rg9 (hrG V e f (V + 1)) (hrG V e f V 6) = rg9 (f (V + 1)) (f V 6) ++ [e]
  rw [e6, rg9_s, ee, rg9_eq (f V 6) (fun i hi => ei i (by omega))]
noncomputable def emE (A v e : Nat) (g : Vw) : Vw := vup (vup g (A + 3 + e) 7 v) A 5 ((vup g (A + 3 + e) 7 v A 5 + 1) % 4294967296)
noncomputable def ecE (A e : Nat) (g : Vw) : Vw := vup (vup (vup g (A + 3 + e) 7 4294967295) (A + 3 + e) 6 0) A 6 ((vup (vup g (A + 3 + e) 7 4294967295) (A + 3 + e) 6 0 A 6 + 1) % 4294967296)
theorem emE_o {A v e a b : Nat} {g : Vw} (h1 : a ≠ A + 3 + e ∨ b ≠ 7) (h2 : a ≠ A ∨ b ≠ 5) : emE A v e g a b = g a b := (vup_ne h2).trans (vup_ne h1)
theorem ecE_o {A e a b : Nat} {g : Vw} (h1 : a ≠ A + 3 + e ∨ (b ≠ 6 ∧ b ≠ 7)) (h2 : a ≠ A ∨ b ≠ 6) : ecE A e g a b = g a b := (vup_ne h2).trans ((vup_ne (by omega)).trans (vup_ne (by omega)))
/-- what changes of contracts leave as it was -/
def FrS (A : Nat) (f g : Vw) : Prop := ∀ a b : Nat, (a < A ∨ A + 39 ≤ a ∨ (a = A ∧ b ≠ 5 ∧ b ≠ 6) ∨ (A + 3 ≤ a ∧ a < A + 15 ∧ b ≠ 6 ∧ b ≠ 7) ∨ ∃ v, v < 8 ∧ (a = A + 15 + 3 * v ∧ b ≠ 6 ∨ a = A + 17 + 3 * v)) → g a b = f a b
/-- staffs fit, the counted valleys' contracts are with counted echoes -/
def StB (f : Vw) (A : Nat) : Prop := ∀ v, v < 8 → f (A + 15 + 3 * v) 6 ≤ 3
def KpS (A : Nat) (f g : Vw) : Prop := StB g A ∧ (StfW f A → StfW g A) ∧ FrS A f g
theorem kpS_tr {A : Nat} {f g h : Vw} (a : KpS A f g) (b : KpS A g h) : KpS A f h := ⟨b.1, fun q => b.2.1 (a.2.1 q), fun x y w => (b.2.2 x y w).trans (a.2.2 x y w)⟩
theorem kpS_rf {A : Nat} {f : Vw} (h : StB f A) : KpS A f f := ⟨h, fun q => q, fun _ _ _ => rfl⟩
theorem frS_A {A b : Nat} {f g : Vw} (h : FrS A f g) (h5 : b ≠ 5) (h6 : b ≠ 6) : g A b = f A b := h A b (Or.inr (Or.inr (Or.inl ⟨rfl, h5, h6⟩)))
/-- one staff changes -/
theorem stf_one {A v : Nat} {f g g' : Vw} (hv : v < 8) (hb : StB f A) (h6 : g (A + 15 + 3 * v) 6 ≤ 3) (hq : v < f A 3 → ∀ x ∈ stLm g (A + 15 + 3 * v), x ∈ stLm f (A + 15 + 3 * v) ∨ x < f A 2) (hs : ∀ a b, a ≠ A + 15 + 3 * v + 1 → (a ≠ A + 15 + 3 * v ∨ b ≠ 6) → g a b = f a b) (hg : ∀ a b, (∃ w, w < 8 ∧ (a = A + 15 + 3 * w ∨ a = A + 16 + 3 * w)) → g' a b = g a b) (h2 : g' A 2 = f A 2) (h3 : g' A 3 = f A 3) : StB g' A ∧ (f A 3 ≤ 8 → StfW f A → StfW g' A) := by
  have e6 : ∀ w, w < 8 → g' (A + 15 + 3 * w) 6 = g (A + 15 + 3 * w) 6 := fun w hw => hg _ _ ⟨w, hw, Or.inl rfl⟩
  have ei : ∀ w i, w < 8 → g' (A + 16 + 3 * w) i = g (A + 16 + 3 * w) i := fun w i hw => hg _ _ ⟨w, hw, Or.inr rfl⟩
  refine ⟨fun w hw => ?_, fun h8 hS w hw => ?_⟩
  · rw [e6 w hw]
    by_cases q : w = v
    · subst q; exact h6
    · rw [hs _ _ (by omega) (Or.inl (by omega))]; exact hb w hw
  · rw [h3] at hw
    have hw8 : w < 8 := by omega
    rw [e6 w hw8, h2]
    by_cases q : w = v
    · subst q
      refine ⟨h6, fun i hi => ?_⟩
      rw [ei w i hw8]
      have hm : g (A + 16 + 3 * w) i ∈ stLm g (A + 15 + 3 * w) := (rg9_mem _).mpr ⟨i, hi, by rw [show A + 15 + 3 * w + 1 = A + 16 + 3 * w by omega]⟩
      rcases hq hw _ hm with r | r
      · obtain ⟨j, j1, j2⟩ := (rg9_mem _).mp r
        rw [← j2, show A + 15 + 3 * w + 1 = A + 16 + 3 * w by omega]
        exact (hS w hw).2 j j1
      · exact r
    · rw [hs (A + 15 + 3 * w) 6 (by omega) (Or.inl (by omega))]
      refine ⟨(hS w hw).1, fun i hi => ?_⟩
      rw [ei w i hw8, hs (A + 16 + 3 * w) i (by omega) (Or.inl (by omega))]
      exact (hS w hw).2 i hi
theorem em_R {A v e : Nat} {f g : Vw} (hv : v < 8) (he : e < f A 2) (h2 : f A 2 ≤ 12) (h3 : f A 3 ≤ 8) (hb : StB f A) (h : HrR (A + 15 + 3 * v) e f g) : KpS A f (emE A v e g) := by
  obtain ⟨k1, k2, k3⟩ := h
  have o2 : ∀ a b, a ≠ A + 15 + 3 * v + 1 → (a ≠ A + 15 + 3 * v ∨ b ≠ 6) → (a ≠ A + 3 + e ∨ b ≠ 7) → (a ≠ A ∨ b ≠ 5) → emE A v e g a b = f a b := fun a b q1 q2 q3 q4 => (emE_o q3 q4).trans (k3 a b q1 q2)
  obtain ⟨s1, s2⟩ := stf_one (g' := emE A v e g) hv hb k2 (fun _ x hx => by
    rw [k1] at hx
    split at hx
    · rcases List.mem_append.mp hx with q | q
      · exact Or.inl q
      · rw [List.mem_singleton.mp q]; exact Or.inr he
    · exact Or.inl hx) k3 (fun a b ⟨w, hw, q⟩ => emE_o (by omega) (by omega)) (o2 _ _ (by omega) (by omega) (by omega) (by omega)) (o2 _ _ (by omega) (by omega) (by omega) (by omega))
  refine ⟨s1, s2 h3, fun a b q => o2 a b ?_ ?_ ?_ ?_⟩
  all_goals rcases q with q | q | q | q | ⟨w, hw, q | q⟩ <;> omega
theorem ec_R {A w e : Nat} {f g : Vw} (hw : w < 8) (he : e < 12) (h3 : f A 3 ≤ 8) (hb : StB f A) (h : RlR (A + 15 + 3 * w) e f g) : KpS A f (ecE A e g) := by
  obtain ⟨k1, k2, k3⟩ := h
  have o2 : ∀ a b, a ≠ A + 15 + 3 * w + 1 → (a ≠ A + 15 + 3 * w ∨ b ≠ 6) → (a ≠ A + 3 + e ∨ (b ≠ 6 ∧ b ≠ 7)) → (a ≠ A ∨ b ≠ 6) → ecE A e g a b = f a b := fun a b q1 q2 q3 q4 => (ecE_o q3 q4).trans (k3 a b q1 q2)
  obtain ⟨s1, s2⟩ := stf_one (g' := ecE A e g) hw hb k2 (fun _ x hx => by
    rw [k1] at hx
    exact Or.inl (List.mem_filter.mp hx).1) k3 (fun a b ⟨v, hv, q⟩ => ecE_o (by omega) (by omega)) (o2 _ _ (by omega) (by omega) (by omega) (by omega)) (o2 _ _ (by omega) (by omega) (by omega) (by omega))
  refine ⟨s1, s2 h3, fun a b q => o2 a b ?_ ?_ ?_ ?_⟩
  all_goals rcases q with q | q | q | q | ⟨v, hv, q | q⟩ <;> omega
theorem flt_s {h : Nat → Nat} {i e : Nat} : (rg9 h (i + 1)).filter (fun x => decide (x ≠ e)) = (rg9 h i).filter (fun x => decide (x ≠ e)) ++ (if h i = e then [] else [h i]) := by
  rw [rg9_s, List.filter_append]
  by_cases q : h i = e
  · rw [if_pos q]
    congr 1
    exact List.filter_eq_nil_iff.mpr (fun x hx => by rw [List.mem_singleton.mp hx, q]; simp)
  · rw [if_neg q]
    congr 1
    exact List.filter_eq_self.mpr (fun x hx => by rw [List.mem_singleton.mp hx]; simpa using q)
theorem v_hire_22 {D e : Nat} {f : Vw} (h3 : f 22 6 ≤ 3) : ∃ g, vM MT0 (D + 1) 66 [vR 22, vI e] f = some ((1, 0), vW 3, g) ∧ HrR 22 e f g := by
  by_cases q : f 22 6 < 3
  · refine ⟨hrG 22 e f, vM_go rfl rfl rfl rfl fun F hF => ?_, hrG_R q⟩
    refine (vF_g rfl rfl).trans ?_
    refine (vlt (x := f 22 6) (y := 3) (by decide) q).trans ?_
    refine (vF_g rfl rfl).trans ?_
    refine Eq.trans (b := gd (Nat.ble (f 22 6 + 1) 3) (vFn (vM MT0 D) nb_X8_hire (F + 58) 2 0 [vR 22, vI e] [] (vup (vup f 23 (f 22 6) e) 22 6 ((vup f 23 (f 22 6) e 22 6 + 1) % 4294967296)))) rfl ?_
    have e6 : vup f 23 (f 22 6) e 22 6 = f 22 6 := vup_ne (Or.inl (by decide))
    rw [Nat.ble_eq_true_of_le (show f 22 6 + 1 ≤ 3 by omega), e6, Nat.mod_eq_of_lt (show f 22 6 + 1 < 4294967296 by omega)]
    refine (vF_g rfl rfl).trans ?_
    exact rfl
  · refine ⟨f, vM_go rfl rfl rfl rfl fun F hF => ?_, by rw [if_neg q], h3, fun _ _ _ _ => rfl⟩
    refine (vF_g rfl rfl).trans ?_
    refine (vge2 (x := f 22 6) (y := 3) (by omega) (by omega)).trans ?_
    refine (vF_g rfl rfl).trans ?_
    exact rfl
theorem rl2_22 {D F i l e : Nat} {g : Vw} (hi : i < 3) : vFn (vM MT0 D) nb_X8_release (F + 1) 2 0 [vR 22, vI e, vI l, vI i] [] g = vc3 (bv (g 23 i)) (bv e) (vFn (vM MT0 D) nb_X8_release F 3 0 [vR 22, vI e, vI l, vI i] [] g) (vFn (vM MT0 D) nb_X8_release F 4 0 [vR 22, vI e, vI l, vI i] [] g) (vFn (vM MT0 D) nb_X8_release F 3 0 [vR 22, vI e, vI l, vI i] [] g) := by
  rcases (show i = 0 ∨ i = 1 ∨ i = 2 by omega) with rfl | rfl | rfl <;> exact (vF_g rfl rfl).trans rfl
theorem rl3_22 {D F i l e : Nat} {g : Vw} (hi : i < 3) (hl : l < 3) : vFn (vM MT0 D) nb_X8_release (F + 1) 3 0 [vR 22, vI e, vI l, vI i] [] g = vFn (vM MT0 D) nb_X8_release F 4 0 [vR 22, vI e, vI (l + 1), vI i] [] (vup g 23 l (g 23 i)) := by
  rcases (show i = 0 ∨ i = 1 ∨ i = 2 by omega) with rfl | rfl | rfl <;> rcases (show l = 0 ∨ l = 1 ∨ l = 2 by omega) with rfl | rfl | rfl <;> exact (vF_g rfl rfl).trans rfl
theorem rl4_22 {D F i l e : Nat} {g : Vw} (hi : i < 3) : vFn (vM MT0 D) nb_X8_release (F + 1) 4 0 [vR 22, vI e, vI l, vI i] [] g = vFn (vM MT0 D) nb_X8_release F 1 0 [vR 22, vI e, vI l, vI (i + 1)] [] g := by
  rcases (show i = 0 ∨ i = 1 ∨ i = 2 by omega) with rfl | rfl | rfl <;> exact (vF_g rfl rfl).trans rfl
theorem rl1l_22 {D F i l e : Nat} {g : Vw} (h : i < g 22 6) (h3 : g 22 6 ≤ 3) : vFn (vM MT0 D) nb_X8_release (F + 1) 1 0 [vR 22, vI e, vI l, vI i] [] g = vFn (vM MT0 D) nb_X8_release F 2 0 [vR 22, vI e, vI l, vI i] [] g := by
  refine (vF_g rfl rfl).trans ?_
  refine (vlt (x := i) (y := g 22 6) (by omega) h).trans ?_
  exact rfl
theorem rl1g_22 {D F i l e : Nat} {g : Vw} (h : g 22 6 ≤ i) (h3 : i ≤ 3) : vFn (vM MT0 D) nb_X8_release (F + 2) 1 0 [vR 22, vI e, vI l, vI i] [] g = some ((1, 0), vW 3, vup g 22 6 l) := by
  refine (vF_g rfl rfl).trans ?_
  refine (vge2 (x := i) (y := g 22 6) (by omega) h).trans ?_
  refine (vF_g rfl rfl).trans ?_
  exact rfl
theorem rlL_22 {D e : Nat} {f : Vw} (h3 : f 22 6 ≤ 3) (he : e < 4294967296) (hx : ∀ i, i < 3 → f 23 i < 4294967296) : ∀ (m i l F : Nat) (g : Vw), i + m = f 22 6 → l ≤ i → 4 * m + 2 ≤ F → rg9 (g 23) l = (rg9 (f 23) i).filter (fun x => decide (x ≠ e)) → (∀ j, i ≤ j → g 23 j = f 23 j) → (∀ a b, a ≠ 23 → g a b = f a b) → ∃ g', vFn (vM MT0 D) nb_X8_release F 1 0 [vR 22, vI e, vI l, vI i] [] g = some ((1, 0), vW 3, g') ∧ RlR 22 e f g' := by
  intro m
  induction m with
  | zero =>
    intro i l F g hi hl hF hq hs hg
    obtain ⟨F, rfl⟩ : ∃ F', F = F' + 2 := ⟨F - 2, by omega⟩
    have e6 := hg 22 6 (by decide)
    have hi : i = f 22 6 := by omega
    subst hi
    refine ⟨_, rl1g_22 (by omega) (by omega), ?_, ?_, fun a b h1 h2 => (vup_ne (by omega)).trans (hg a b h1)⟩
    · show rg9 (vup g 22 6 l 23) (vup g 22 6 l 22 6) = _
      rw [show vup g 22 6 l 22 6 = l from vup_eq, rg9_eq l (g := vup g 22 6 l 23) (h := g 23) (fun i _ => vup_ne (Or.inl (by decide)))]
      exact hq
    · rw [show vup g 22 6 l 22 6 = l from vup_eq]
      omega
  | succ m ih =>
    intro i l F g hi hl hF hq hs hg
    obtain ⟨F, rfl⟩ : ∃ F', F = F' + 4 := ⟨F - 4, by omega⟩
    have e6 := hg 22 6 (by decide)
    have ei := hs i (Nat.le_refl _)
    have hi3 : i < 3 := by omega
    have hl3 : l < 3 := by omega
    have hxi := hx i hi3
    by_cases q : f 23 i = e
    · obtain ⟨g', k1, k2⟩ := ih (i + 1) l (F + 1) g (by omega) (by omega) (by omega) (by rw [flt_s, if_pos q, List.append_nil]; exact hq) (fun j hj => hs j (by omega)) hg
      exact ⟨g', (rl1l_22 (F := F + 3) (by omega) (by omega)).trans ((rl2_22 (F := F + 2) hi3).trans ((veq (by rw [ei]; exact q)).trans ((rl4_22 (F := F + 1) hi3).trans k1))), k2⟩
    · obtain ⟨g', k1, k2⟩ := ih (i + 1) (l + 1) F (vup g 23 l (g 23 i)) (by omega) (by omega) (by omega) (by
        rw [flt_s, if_neg q, rg9_s, show vup g 23 l (g 23 i) 23 l = g 23 i from vup_eq, ei, ← hq]
        congr 1
        exact rg9_eq l (fun k hk => vup_ne (Or.inr (by omega)))) (fun j hj => (vup_ne (Or.inr (by omega))).trans (hs j (by omega))) (fun a b h => (vup_ne (Or.inl h)).trans (hg a b h))
      exact ⟨g', (rl1l_22 (F := F + 3) (by omega) (by omega)).trans ((rl2_22 (F := F + 2) hi3).trans ((vne (by rw [ei]; exact hxi) he (by rw [ei]; exact q)).trans ((rl3_22 (F := F + 1) hi3 hl3).trans ((rl4_22 (F := F) hi3).trans k1)))), k2⟩
theorem v_rel_22 {D e : Nat} {f : Vw} (h3 : f 22 6 ≤ 3) (he : e < 4294967296) (hx : ∀ i, i < 3 → f 23 i < 4294967296) : ∃ g, vM MT0 (D + 1) 67 [vR 22, vI e] f = some ((1, 0), vW 3, g) ∧ RlR 22 e f g := by
  obtain ⟨F, hF, go⟩ := vM_at (D := D) (y := 67) (as := [vR 22, vI e]) (f := f) rfl rfl rfl rfl
  obtain ⟨g', k1, k2⟩ := rlL_22 (D := D) h3 he hx (f 22 6) 0 0 (F + 59) f (by omega) (by omega) (by omega) rfl (fun _ _ => rfl) (fun _ _ _ => rfl)
  refine ⟨g', go _ ?_, k2⟩
  refine (vF_g rfl rfl).trans ?_
  exact k1
theorem v_emp_7_0 {D e : Nat} {f : Vw} (he : e < 12) (h3 : f 22 6 ≤ 3) : ∃ g, vM MT0 (D + 2) 85 [vR 7, vI 0, vI e] f = some ((1, 0), vW 3, emE 7 0 e g) ∧ HrR 22 e f g := by
  obtain ⟨g, e1, hg⟩ := v_hire_22 (D := D) (e := e) h3
  refine ⟨g, vM_go rfl rfl rfl rfl fun F hF => ?_, hg⟩
  refine (vF_g rfl rfl).trans ?_
  refine (vbnd_1 e1).trans ?_
  clear e1
  rcases (show e = 0 ∨ e = 1 ∨ e = 2 ∨ e = 3 ∨ e = 4 ∨ e = 5 ∨ e = 6 ∨ e = 7 ∨ e = 8 ∨ e = 9 ∨ e = 10 ∨ e = 11 by omega) with rfl | rfl | rfl | rfl | rfl | rfl | rfl | rfl | rfl | rfl | rfl | rfl <;> exact rfl
theorem ec2_7_0 {D F e : Nat} {f g : Vw} (he : e < 12) (h : vM MT0 D 67 [vR 22, vI e] f = some ((1, 0), vW 3, g)) : vFn (vM MT0 D) nb_X9_endContract (F + 1) 2 0 [vR 7, vI e, vI 0] [] f = some ((1, 0), vW 3, ecE 7 e g) := by
  refine (vF_g rfl rfl).trans ?_
  refine (vbnd_1 h).trans ?_
  clear h
  rcases (show e = 0 ∨ e = 1 ∨ e = 2 ∨ e = 3 ∨ e = 4 ∨ e = 5 ∨ e = 6 ∨ e = 7 ∨ e = 8 ∨ e = 9 ∨ e = 10 ∨ e = 11 by omega) with rfl | rfl | rfl | rfl | rfl | rfl | rfl | rfl | rfl | rfl | rfl | rfl <;> exact rfl
theorem v_hire_25 {D e : Nat} {f : Vw} (h3 : f 25 6 ≤ 3) : ∃ g, vM MT0 (D + 1) 66 [vR 25, vI e] f = some ((1, 0), vW 3, g) ∧ HrR 25 e f g := by
  by_cases q : f 25 6 < 3
  · refine ⟨hrG 25 e f, vM_go rfl rfl rfl rfl fun F hF => ?_, hrG_R q⟩
    refine (vF_g rfl rfl).trans ?_
    refine (vlt (x := f 25 6) (y := 3) (by decide) q).trans ?_
    refine (vF_g rfl rfl).trans ?_
    refine Eq.trans (b := gd (Nat.ble (f 25 6 + 1) 3) (vFn (vM MT0 D) nb_X8_hire (F + 58) 2 0 [vR 25, vI e] [] (vup (vup f 26 (f 25 6) e) 25 6 ((vup f 26 (f 25 6) e 25 6 + 1) % 4294967296)))) rfl ?_
    have e6 : vup f 26 (f 25 6) e 25 6 = f 25 6 := vup_ne (Or.inl (by decide))
    rw [Nat.ble_eq_true_of_le (show f 25 6 + 1 ≤ 3 by omega), e6, Nat.mod_eq_of_lt (show f 25 6 + 1 < 4294967296 by omega)]
    refine (vF_g rfl rfl).trans ?_
    exact rfl
  · refine ⟨f, vM_go rfl rfl rfl rfl fun F hF => ?_, by rw [if_neg q], h3, fun _ _ _ _ => rfl⟩
    refine (vF_g rfl rfl).trans ?_
    refine (vge2 (x := f 25 6) (y := 3) (by omega) (by omega)).trans ?_
    refine (vF_g rfl rfl).trans ?_
    exact rfl
theorem rl2_25 {D F i l e : Nat} {g : Vw} (hi : i < 3) : vFn (vM MT0 D) nb_X8_release (F + 1) 2 0 [vR 25, vI e, vI l, vI i] [] g = vc3 (bv (g 26 i)) (bv e) (vFn (vM MT0 D) nb_X8_release F 3 0 [vR 25, vI e, vI l, vI i] [] g) (vFn (vM MT0 D) nb_X8_release F 4 0 [vR 25, vI e, vI l, vI i] [] g) (vFn (vM MT0 D) nb_X8_release F 3 0 [vR 25, vI e, vI l, vI i] [] g) := by
  rcases (show i = 0 ∨ i = 1 ∨ i = 2 by omega) with rfl | rfl | rfl <;> exact (vF_g rfl rfl).trans rfl
theorem rl3_25 {D F i l e : Nat} {g : Vw} (hi : i < 3) (hl : l < 3) : vFn (vM MT0 D) nb_X8_release (F + 1) 3 0 [vR 25, vI e, vI l, vI i] [] g = vFn (vM MT0 D) nb_X8_release F 4 0 [vR 25, vI e, vI (l + 1), vI i] [] (vup g 26 l (g 26 i)) := by
  rcases (show i = 0 ∨ i = 1 ∨ i = 2 by omega) with rfl | rfl | rfl <;> rcases (show l = 0 ∨ l = 1 ∨ l = 2 by omega) with rfl | rfl | rfl <;> exact (vF_g rfl rfl).trans rfl
theorem rl4_25 {D F i l e : Nat} {g : Vw} (hi : i < 3) : vFn (vM MT0 D) nb_X8_release (F + 1) 4 0 [vR 25, vI e, vI l, vI i] [] g = vFn (vM MT0 D) nb_X8_release F 1 0 [vR 25, vI e, vI l, vI (i + 1)] [] g := by
  rcases (show i = 0 ∨ i = 1 ∨ i = 2 by omega) with rfl | rfl | rfl <;> exact (vF_g rfl rfl).trans rfl
theorem rl1l_25 {D F i l e : Nat} {g : Vw} (h : i < g 25 6) (h3 : g 25 6 ≤ 3) : vFn (vM MT0 D) nb_X8_release (F + 1) 1 0 [vR 25, vI e, vI l, vI i] [] g = vFn (vM MT0 D) nb_X8_release F 2 0 [vR 25, vI e, vI l, vI i] [] g := by
  refine (vF_g rfl rfl).trans ?_
  refine (vlt (x := i) (y := g 25 6) (by omega) h).trans ?_
  exact rfl
theorem rl1g_25 {D F i l e : Nat} {g : Vw} (h : g 25 6 ≤ i) (h3 : i ≤ 3) : vFn (vM MT0 D) nb_X8_release (F + 2) 1 0 [vR 25, vI e, vI l, vI i] [] g = some ((1, 0), vW 3, vup g 25 6 l) := by
  refine (vF_g rfl rfl).trans ?_
  refine (vge2 (x := i) (y := g 25 6) (by omega) h).trans ?_
  refine (vF_g rfl rfl).trans ?_
  exact rfl
theorem rlL_25 {D e : Nat} {f : Vw} (h3 : f 25 6 ≤ 3) (he : e < 4294967296) (hx : ∀ i, i < 3 → f 26 i < 4294967296) : ∀ (m i l F : Nat) (g : Vw), i + m = f 25 6 → l ≤ i → 4 * m + 2 ≤ F → rg9 (g 26) l = (rg9 (f 26) i).filter (fun x => decide (x ≠ e)) → (∀ j, i ≤ j → g 26 j = f 26 j) → (∀ a b, a ≠ 26 → g a b = f a b) → ∃ g', vFn (vM MT0 D) nb_X8_release F 1 0 [vR 25, vI e, vI l, vI i] [] g = some ((1, 0), vW 3, g') ∧ RlR 25 e f g' := by
  intro m
  induction m with
  | zero =>
    intro i l F g hi hl hF hq hs hg
    obtain ⟨F, rfl⟩ : ∃ F', F = F' + 2 := ⟨F - 2, by omega⟩
    have e6 := hg 25 6 (by decide)
    have hi : i = f 25 6 := by omega
    subst hi
    refine ⟨_, rl1g_25 (by omega) (by omega), ?_, ?_, fun a b h1 h2 => (vup_ne (by omega)).trans (hg a b h1)⟩
    · show rg9 (vup g 25 6 l 26) (vup g 25 6 l 25 6) = _
      rw [show vup g 25 6 l 25 6 = l from vup_eq, rg9_eq l (g := vup g 25 6 l 26) (h := g 26) (fun i _ => vup_ne (Or.inl (by decide)))]
      exact hq
    · rw [show vup g 25 6 l 25 6 = l from vup_eq]
      omega
  | succ m ih =>
    intro i l F g hi hl hF hq hs hg
    obtain ⟨F, rfl⟩ : ∃ F', F = F' + 4 := ⟨F - 4, by omega⟩
    have e6 := hg 25 6 (by decide)
    have ei := hs i (Nat.le_refl _)
    have hi3 : i < 3 := by omega
    have hl3 : l < 3 := by omega
    have hxi := hx i hi3
    by_cases q : f 26 i = e
    · obtain ⟨g', k1, k2⟩ := ih (i + 1) l (F + 1) g (by omega) (by omega) (by omega) (by rw [flt_s, if_pos q, List.append_nil]; exact hq) (fun j hj => hs j (by omega)) hg
      exact ⟨g', (rl1l_25 (F := F + 3) (by omega) (by omega)).trans ((rl2_25 (F := F + 2) hi3).trans ((veq (by rw [ei]; exact q)).trans ((rl4_25 (F := F + 1) hi3).trans k1))), k2⟩
    · obtain ⟨g', k1, k2⟩ := ih (i + 1) (l + 1) F (vup g 26 l (g 26 i)) (by omega) (by omega) (by omega) (by
        rw [flt_s, if_neg q, rg9_s, show vup g 26 l (g 26 i) 26 l = g 26 i from vup_eq, ei, ← hq]
        congr 1
        exact rg9_eq l (fun k hk => vup_ne (Or.inr (by omega)))) (fun j hj => (vup_ne (Or.inr (by omega))).trans (hs j (by omega))) (fun a b h => (vup_ne (Or.inl h)).trans (hg a b h))
      exact ⟨g', (rl1l_25 (F := F + 3) (by omega) (by omega)).trans ((rl2_25 (F := F + 2) hi3).trans ((vne (by rw [ei]; exact hxi) he (by rw [ei]; exact q)).trans ((rl3_25 (F := F + 1) hi3 hl3).trans ((rl4_25 (F := F) hi3).trans k1)))), k2⟩
theorem v_rel_25 {D e : Nat} {f : Vw} (h3 : f 25 6 ≤ 3) (he : e < 4294967296) (hx : ∀ i, i < 3 → f 26 i < 4294967296) : ∃ g, vM MT0 (D + 1) 67 [vR 25, vI e] f = some ((1, 0), vW 3, g) ∧ RlR 25 e f g := by
  obtain ⟨F, hF, go⟩ := vM_at (D := D) (y := 67) (as := [vR 25, vI e]) (f := f) rfl rfl rfl rfl
  obtain ⟨g', k1, k2⟩ := rlL_25 (D := D) h3 he hx (f 25 6) 0 0 (F + 59) f (by omega) (by omega) (by omega) rfl (fun _ _ => rfl) (fun _ _ _ => rfl)
  refine ⟨g', go _ ?_, k2⟩
  refine (vF_g rfl rfl).trans ?_
  exact k1
theorem v_emp_7_1 {D e : Nat} {f : Vw} (he : e < 12) (h3 : f 25 6 ≤ 3) : ∃ g, vM MT0 (D + 2) 85 [vR 7, vI 1, vI e] f = some ((1, 0), vW 3, emE 7 1 e g) ∧ HrR 25 e f g := by
  obtain ⟨g, e1, hg⟩ := v_hire_25 (D := D) (e := e) h3
  refine ⟨g, vM_go rfl rfl rfl rfl fun F hF => ?_, hg⟩
  refine (vF_g rfl rfl).trans ?_
  refine (vbnd_1 e1).trans ?_
  clear e1
  rcases (show e = 0 ∨ e = 1 ∨ e = 2 ∨ e = 3 ∨ e = 4 ∨ e = 5 ∨ e = 6 ∨ e = 7 ∨ e = 8 ∨ e = 9 ∨ e = 10 ∨ e = 11 by omega) with rfl | rfl | rfl | rfl | rfl | rfl | rfl | rfl | rfl | rfl | rfl | rfl <;> exact rfl
theorem ec2_7_1 {D F e : Nat} {f g : Vw} (he : e < 12) (h : vM MT0 D 67 [vR 25, vI e] f = some ((1, 0), vW 3, g)) : vFn (vM MT0 D) nb_X9_endContract (F + 1) 2 0 [vR 7, vI e, vI 1] [] f = some ((1, 0), vW 3, ecE 7 e g) := by
  refine (vF_g rfl rfl).trans ?_
  refine (vbnd_1 h).trans ?_
  clear h
  rcases (show e = 0 ∨ e = 1 ∨ e = 2 ∨ e = 3 ∨ e = 4 ∨ e = 5 ∨ e = 6 ∨ e = 7 ∨ e = 8 ∨ e = 9 ∨ e = 10 ∨ e = 11 by omega) with rfl | rfl | rfl | rfl | rfl | rfl | rfl | rfl | rfl | rfl | rfl | rfl <;> exact rfl
theorem v_hire_28 {D e : Nat} {f : Vw} (h3 : f 28 6 ≤ 3) : ∃ g, vM MT0 (D + 1) 66 [vR 28, vI e] f = some ((1, 0), vW 3, g) ∧ HrR 28 e f g := by
  by_cases q : f 28 6 < 3
  · refine ⟨hrG 28 e f, vM_go rfl rfl rfl rfl fun F hF => ?_, hrG_R q⟩
    refine (vF_g rfl rfl).trans ?_
    refine (vlt (x := f 28 6) (y := 3) (by decide) q).trans ?_
    refine (vF_g rfl rfl).trans ?_
    refine Eq.trans (b := gd (Nat.ble (f 28 6 + 1) 3) (vFn (vM MT0 D) nb_X8_hire (F + 58) 2 0 [vR 28, vI e] [] (vup (vup f 29 (f 28 6) e) 28 6 ((vup f 29 (f 28 6) e 28 6 + 1) % 4294967296)))) rfl ?_
    have e6 : vup f 29 (f 28 6) e 28 6 = f 28 6 := vup_ne (Or.inl (by decide))
    rw [Nat.ble_eq_true_of_le (show f 28 6 + 1 ≤ 3 by omega), e6, Nat.mod_eq_of_lt (show f 28 6 + 1 < 4294967296 by omega)]
    refine (vF_g rfl rfl).trans ?_
    exact rfl
  · refine ⟨f, vM_go rfl rfl rfl rfl fun F hF => ?_, by rw [if_neg q], h3, fun _ _ _ _ => rfl⟩
    refine (vF_g rfl rfl).trans ?_
    refine (vge2 (x := f 28 6) (y := 3) (by omega) (by omega)).trans ?_
    refine (vF_g rfl rfl).trans ?_
    exact rfl
theorem rl2_28 {D F i l e : Nat} {g : Vw} (hi : i < 3) : vFn (vM MT0 D) nb_X8_release (F + 1) 2 0 [vR 28, vI e, vI l, vI i] [] g = vc3 (bv (g 29 i)) (bv e) (vFn (vM MT0 D) nb_X8_release F 3 0 [vR 28, vI e, vI l, vI i] [] g) (vFn (vM MT0 D) nb_X8_release F 4 0 [vR 28, vI e, vI l, vI i] [] g) (vFn (vM MT0 D) nb_X8_release F 3 0 [vR 28, vI e, vI l, vI i] [] g) := by
  rcases (show i = 0 ∨ i = 1 ∨ i = 2 by omega) with rfl | rfl | rfl <;> exact (vF_g rfl rfl).trans rfl
theorem rl3_28 {D F i l e : Nat} {g : Vw} (hi : i < 3) (hl : l < 3) : vFn (vM MT0 D) nb_X8_release (F + 1) 3 0 [vR 28, vI e, vI l, vI i] [] g = vFn (vM MT0 D) nb_X8_release F 4 0 [vR 28, vI e, vI (l + 1), vI i] [] (vup g 29 l (g 29 i)) := by
  rcases (show i = 0 ∨ i = 1 ∨ i = 2 by omega) with rfl | rfl | rfl <;> rcases (show l = 0 ∨ l = 1 ∨ l = 2 by omega) with rfl | rfl | rfl <;> exact (vF_g rfl rfl).trans rfl
theorem rl4_28 {D F i l e : Nat} {g : Vw} (hi : i < 3) : vFn (vM MT0 D) nb_X8_release (F + 1) 4 0 [vR 28, vI e, vI l, vI i] [] g = vFn (vM MT0 D) nb_X8_release F 1 0 [vR 28, vI e, vI l, vI (i + 1)] [] g := by
  rcases (show i = 0 ∨ i = 1 ∨ i = 2 by omega) with rfl | rfl | rfl <;> exact (vF_g rfl rfl).trans rfl
theorem rl1l_28 {D F i l e : Nat} {g : Vw} (h : i < g 28 6) (h3 : g 28 6 ≤ 3) : vFn (vM MT0 D) nb_X8_release (F + 1) 1 0 [vR 28, vI e, vI l, vI i] [] g = vFn (vM MT0 D) nb_X8_release F 2 0 [vR 28, vI e, vI l, vI i] [] g := by
  refine (vF_g rfl rfl).trans ?_
  refine (vlt (x := i) (y := g 28 6) (by omega) h).trans ?_
  exact rfl
theorem rl1g_28 {D F i l e : Nat} {g : Vw} (h : g 28 6 ≤ i) (h3 : i ≤ 3) : vFn (vM MT0 D) nb_X8_release (F + 2) 1 0 [vR 28, vI e, vI l, vI i] [] g = some ((1, 0), vW 3, vup g 28 6 l) := by
  refine (vF_g rfl rfl).trans ?_
  refine (vge2 (x := i) (y := g 28 6) (by omega) h).trans ?_
  refine (vF_g rfl rfl).trans ?_
  exact rfl
theorem rlL_28 {D e : Nat} {f : Vw} (h3 : f 28 6 ≤ 3) (he : e < 4294967296) (hx : ∀ i, i < 3 → f 29 i < 4294967296) : ∀ (m i l F : Nat) (g : Vw), i + m = f 28 6 → l ≤ i → 4 * m + 2 ≤ F → rg9 (g 29) l = (rg9 (f 29) i).filter (fun x => decide (x ≠ e)) → (∀ j, i ≤ j → g 29 j = f 29 j) → (∀ a b, a ≠ 29 → g a b = f a b) → ∃ g', vFn (vM MT0 D) nb_X8_release F 1 0 [vR 28, vI e, vI l, vI i] [] g = some ((1, 0), vW 3, g') ∧ RlR 28 e f g' := by
  intro m
  induction m with
  | zero =>
    intro i l F g hi hl hF hq hs hg
    obtain ⟨F, rfl⟩ : ∃ F', F = F' + 2 := ⟨F - 2, by omega⟩
    have e6 := hg 28 6 (by decide)
    have hi : i = f 28 6 := by omega
    subst hi
    refine ⟨_, rl1g_28 (by omega) (by omega), ?_, ?_, fun a b h1 h2 => (vup_ne (by omega)).trans (hg a b h1)⟩
    · show rg9 (vup g 28 6 l 29) (vup g 28 6 l 28 6) = _
      rw [show vup g 28 6 l 28 6 = l from vup_eq, rg9_eq l (g := vup g 28 6 l 29) (h := g 29) (fun i _ => vup_ne (Or.inl (by decide)))]
      exact hq
    · rw [show vup g 28 6 l 28 6 = l from vup_eq]
      omega
  | succ m ih =>
    intro i l F g hi hl hF hq hs hg
    obtain ⟨F, rfl⟩ : ∃ F', F = F' + 4 := ⟨F - 4, by omega⟩
    have e6 := hg 28 6 (by decide)
    have ei := hs i (Nat.le_refl _)
    have hi3 : i < 3 := by omega
    have hl3 : l < 3 := by omega
    have hxi := hx i hi3
    by_cases q : f 29 i = e
    · obtain ⟨g', k1, k2⟩ := ih (i + 1) l (F + 1) g (by omega) (by omega) (by omega) (by rw [flt_s, if_pos q, List.append_nil]; exact hq) (fun j hj => hs j (by omega)) hg
      exact ⟨g', (rl1l_28 (F := F + 3) (by omega) (by omega)).trans ((rl2_28 (F := F + 2) hi3).trans ((veq (by rw [ei]; exact q)).trans ((rl4_28 (F := F + 1) hi3).trans k1))), k2⟩
    · obtain ⟨g', k1, k2⟩ := ih (i + 1) (l + 1) F (vup g 29 l (g 29 i)) (by omega) (by omega) (by omega) (by
        rw [flt_s, if_neg q, rg9_s, show vup g 29 l (g 29 i) 29 l = g 29 i from vup_eq, ei, ← hq]
        congr 1
        exact rg9_eq l (fun k hk => vup_ne (Or.inr (by omega)))) (fun j hj => (vup_ne (Or.inr (by omega))).trans (hs j (by omega))) (fun a b h => (vup_ne (Or.inl h)).trans (hg a b h))
      exact ⟨g', (rl1l_28 (F := F + 3) (by omega) (by omega)).trans ((rl2_28 (F := F + 2) hi3).trans ((vne (by rw [ei]; exact hxi) he (by rw [ei]; exact q)).trans ((rl3_28 (F := F + 1) hi3 hl3).trans ((rl4_28 (F := F) hi3).trans k1)))), k2⟩
theorem v_rel_28 {D e : Nat} {f : Vw} (h3 : f 28 6 ≤ 3) (he : e < 4294967296) (hx : ∀ i, i < 3 → f 29 i < 4294967296) : ∃ g, vM MT0 (D + 1) 67 [vR 28, vI e] f = some ((1, 0), vW 3, g) ∧ RlR 28 e f g := by
  obtain ⟨F, hF, go⟩ := vM_at (D := D) (y := 67) (as := [vR 28, vI e]) (f := f) rfl rfl rfl rfl
  obtain ⟨g', k1, k2⟩ := rlL_28 (D := D) h3 he hx (f 28 6) 0 0 (F + 59) f (by omega) (by omega) (by omega) rfl (fun _ _ => rfl) (fun _ _ _ => rfl)
  refine ⟨g', go _ ?_, k2⟩
  refine (vF_g rfl rfl).trans ?_
  exact k1
theorem v_emp_7_2 {D e : Nat} {f : Vw} (he : e < 12) (h3 : f 28 6 ≤ 3) : ∃ g, vM MT0 (D + 2) 85 [vR 7, vI 2, vI e] f = some ((1, 0), vW 3, emE 7 2 e g) ∧ HrR 28 e f g := by
  obtain ⟨g, e1, hg⟩ := v_hire_28 (D := D) (e := e) h3
  refine ⟨g, vM_go rfl rfl rfl rfl fun F hF => ?_, hg⟩
  refine (vF_g rfl rfl).trans ?_
  refine (vbnd_1 e1).trans ?_
  clear e1
  rcases (show e = 0 ∨ e = 1 ∨ e = 2 ∨ e = 3 ∨ e = 4 ∨ e = 5 ∨ e = 6 ∨ e = 7 ∨ e = 8 ∨ e = 9 ∨ e = 10 ∨ e = 11 by omega) with rfl | rfl | rfl | rfl | rfl | rfl | rfl | rfl | rfl | rfl | rfl | rfl <;> exact rfl
theorem ec2_7_2 {D F e : Nat} {f g : Vw} (he : e < 12) (h : vM MT0 D 67 [vR 28, vI e] f = some ((1, 0), vW 3, g)) : vFn (vM MT0 D) nb_X9_endContract (F + 1) 2 0 [vR 7, vI e, vI 2] [] f = some ((1, 0), vW 3, ecE 7 e g) := by
  refine (vF_g rfl rfl).trans ?_
  refine (vbnd_1 h).trans ?_
  clear h
  rcases (show e = 0 ∨ e = 1 ∨ e = 2 ∨ e = 3 ∨ e = 4 ∨ e = 5 ∨ e = 6 ∨ e = 7 ∨ e = 8 ∨ e = 9 ∨ e = 10 ∨ e = 11 by omega) with rfl | rfl | rfl | rfl | rfl | rfl | rfl | rfl | rfl | rfl | rfl | rfl <;> exact rfl
theorem v_hire_31 {D e : Nat} {f : Vw} (h3 : f 31 6 ≤ 3) : ∃ g, vM MT0 (D + 1) 66 [vR 31, vI e] f = some ((1, 0), vW 3, g) ∧ HrR 31 e f g := by
  by_cases q : f 31 6 < 3
  · refine ⟨hrG 31 e f, vM_go rfl rfl rfl rfl fun F hF => ?_, hrG_R q⟩
    refine (vF_g rfl rfl).trans ?_
    refine (vlt (x := f 31 6) (y := 3) (by decide) q).trans ?_
    refine (vF_g rfl rfl).trans ?_
    refine Eq.trans (b := gd (Nat.ble (f 31 6 + 1) 3) (vFn (vM MT0 D) nb_X8_hire (F + 58) 2 0 [vR 31, vI e] [] (vup (vup f 32 (f 31 6) e) 31 6 ((vup f 32 (f 31 6) e 31 6 + 1) % 4294967296)))) rfl ?_
    have e6 : vup f 32 (f 31 6) e 31 6 = f 31 6 := vup_ne (Or.inl (by decide))
    rw [Nat.ble_eq_true_of_le (show f 31 6 + 1 ≤ 3 by omega), e6, Nat.mod_eq_of_lt (show f 31 6 + 1 < 4294967296 by omega)]
    refine (vF_g rfl rfl).trans ?_
    exact rfl
  · refine ⟨f, vM_go rfl rfl rfl rfl fun F hF => ?_, by rw [if_neg q], h3, fun _ _ _ _ => rfl⟩
    refine (vF_g rfl rfl).trans ?_
    refine (vge2 (x := f 31 6) (y := 3) (by omega) (by omega)).trans ?_
    refine (vF_g rfl rfl).trans ?_
    exact rfl
theorem rl2_31 {D F i l e : Nat} {g : Vw} (hi : i < 3) : vFn (vM MT0 D) nb_X8_release (F + 1) 2 0 [vR 31, vI e, vI l, vI i] [] g = vc3 (bv (g 32 i)) (bv e) (vFn (vM MT0 D) nb_X8_release F 3 0 [vR 31, vI e, vI l, vI i] [] g) (vFn (vM MT0 D) nb_X8_release F 4 0 [vR 31, vI e, vI l, vI i] [] g) (vFn (vM MT0 D) nb_X8_release F 3 0 [vR 31, vI e, vI l, vI i] [] g) := by
  rcases (show i = 0 ∨ i = 1 ∨ i = 2 by omega) with rfl | rfl | rfl <;> exact (vF_g rfl rfl).trans rfl
theorem rl3_31 {D F i l e : Nat} {g : Vw} (hi : i < 3) (hl : l < 3) : vFn (vM MT0 D) nb_X8_release (F + 1) 3 0 [vR 31, vI e, vI l, vI i] [] g = vFn (vM MT0 D) nb_X8_release F 4 0 [vR 31, vI e, vI (l + 1), vI i] [] (vup g 32 l (g 32 i)) := by
  rcases (show i = 0 ∨ i = 1 ∨ i = 2 by omega) with rfl | rfl | rfl <;> rcases (show l = 0 ∨ l = 1 ∨ l = 2 by omega) with rfl | rfl | rfl <;> exact (vF_g rfl rfl).trans rfl
theorem rl4_31 {D F i l e : Nat} {g : Vw} (hi : i < 3) : vFn (vM MT0 D) nb_X8_release (F + 1) 4 0 [vR 31, vI e, vI l, vI i] [] g = vFn (vM MT0 D) nb_X8_release F 1 0 [vR 31, vI e, vI l, vI (i + 1)] [] g := by
  rcases (show i = 0 ∨ i = 1 ∨ i = 2 by omega) with rfl | rfl | rfl <;> exact (vF_g rfl rfl).trans rfl
theorem rl1l_31 {D F i l e : Nat} {g : Vw} (h : i < g 31 6) (h3 : g 31 6 ≤ 3) : vFn (vM MT0 D) nb_X8_release (F + 1) 1 0 [vR 31, vI e, vI l, vI i] [] g = vFn (vM MT0 D) nb_X8_release F 2 0 [vR 31, vI e, vI l, vI i] [] g := by
  refine (vF_g rfl rfl).trans ?_
  refine (vlt (x := i) (y := g 31 6) (by omega) h).trans ?_
  exact rfl
theorem rl1g_31 {D F i l e : Nat} {g : Vw} (h : g 31 6 ≤ i) (h3 : i ≤ 3) : vFn (vM MT0 D) nb_X8_release (F + 2) 1 0 [vR 31, vI e, vI l, vI i] [] g = some ((1, 0), vW 3, vup g 31 6 l) := by
  refine (vF_g rfl rfl).trans ?_
  refine (vge2 (x := i) (y := g 31 6) (by omega) h).trans ?_
  refine (vF_g rfl rfl).trans ?_
  exact rfl
theorem rlL_31 {D e : Nat} {f : Vw} (h3 : f 31 6 ≤ 3) (he : e < 4294967296) (hx : ∀ i, i < 3 → f 32 i < 4294967296) : ∀ (m i l F : Nat) (g : Vw), i + m = f 31 6 → l ≤ i → 4 * m + 2 ≤ F → rg9 (g 32) l = (rg9 (f 32) i).filter (fun x => decide (x ≠ e)) → (∀ j, i ≤ j → g 32 j = f 32 j) → (∀ a b, a ≠ 32 → g a b = f a b) → ∃ g', vFn (vM MT0 D) nb_X8_release F 1 0 [vR 31, vI e, vI l, vI i] [] g = some ((1, 0), vW 3, g') ∧ RlR 31 e f g' := by
  intro m
  induction m with
  | zero =>
    intro i l F g hi hl hF hq hs hg
    obtain ⟨F, rfl⟩ : ∃ F', F = F' + 2 := ⟨F - 2, by omega⟩
    have e6 := hg 31 6 (by decide)
    have hi : i = f 31 6 := by omega
    subst hi
    refine ⟨_, rl1g_31 (by omega) (by omega), ?_, ?_, fun a b h1 h2 => (vup_ne (by omega)).trans (hg a b h1)⟩
    · show rg9 (vup g 31 6 l 32) (vup g 31 6 l 31 6) = _
      rw [show vup g 31 6 l 31 6 = l from vup_eq, rg9_eq l (g := vup g 31 6 l 32) (h := g 32) (fun i _ => vup_ne (Or.inl (by decide)))]
      exact hq
    · rw [show vup g 31 6 l 31 6 = l from vup_eq]
      omega
  | succ m ih =>
    intro i l F g hi hl hF hq hs hg
    obtain ⟨F, rfl⟩ : ∃ F', F = F' + 4 := ⟨F - 4, by omega⟩
    have e6 := hg 31 6 (by decide)
    have ei := hs i (Nat.le_refl _)
    have hi3 : i < 3 := by omega
    have hl3 : l < 3 := by omega
    have hxi := hx i hi3
    by_cases q : f 32 i = e
    · obtain ⟨g', k1, k2⟩ := ih (i + 1) l (F + 1) g (by omega) (by omega) (by omega) (by rw [flt_s, if_pos q, List.append_nil]; exact hq) (fun j hj => hs j (by omega)) hg
      exact ⟨g', (rl1l_31 (F := F + 3) (by omega) (by omega)).trans ((rl2_31 (F := F + 2) hi3).trans ((veq (by rw [ei]; exact q)).trans ((rl4_31 (F := F + 1) hi3).trans k1))), k2⟩
    · obtain ⟨g', k1, k2⟩ := ih (i + 1) (l + 1) F (vup g 32 l (g 32 i)) (by omega) (by omega) (by omega) (by
        rw [flt_s, if_neg q, rg9_s, show vup g 32 l (g 32 i) 32 l = g 32 i from vup_eq, ei, ← hq]
        congr 1
        exact rg9_eq l (fun k hk => vup_ne (Or.inr (by omega)))) (fun j hj => (vup_ne (Or.inr (by omega))).trans (hs j (by omega))) (fun a b h => (vup_ne (Or.inl h)).trans (hg a b h))
      exact ⟨g', (rl1l_31 (F := F + 3) (by omega) (by omega)).trans ((rl2_31 (F := F + 2) hi3).trans ((vne (by rw [ei]; exact hxi) he (by rw [ei]; exact q)).trans ((rl3_31 (F := F + 1) hi3 hl3).trans ((rl4_31 (F := F) hi3).trans k1)))), k2⟩
theorem v_rel_31 {D e : Nat} {f : Vw} (h3 : f 31 6 ≤ 3) (he : e < 4294967296) (hx : ∀ i, i < 3 → f 32 i < 4294967296) : ∃ g, vM MT0 (D + 1) 67 [vR 31, vI e] f = some ((1, 0), vW 3, g) ∧ RlR 31 e f g := by
  obtain ⟨F, hF, go⟩ := vM_at (D := D) (y := 67) (as := [vR 31, vI e]) (f := f) rfl rfl rfl rfl
  obtain ⟨g', k1, k2⟩ := rlL_31 (D := D) h3 he hx (f 31 6) 0 0 (F + 59) f (by omega) (by omega) (by omega) rfl (fun _ _ => rfl) (fun _ _ _ => rfl)
  refine ⟨g', go _ ?_, k2⟩
  refine (vF_g rfl rfl).trans ?_
  exact k1
theorem v_emp_7_3 {D e : Nat} {f : Vw} (he : e < 12) (h3 : f 31 6 ≤ 3) : ∃ g, vM MT0 (D + 2) 85 [vR 7, vI 3, vI e] f = some ((1, 0), vW 3, emE 7 3 e g) ∧ HrR 31 e f g := by
  obtain ⟨g, e1, hg⟩ := v_hire_31 (D := D) (e := e) h3
  refine ⟨g, vM_go rfl rfl rfl rfl fun F hF => ?_, hg⟩
  refine (vF_g rfl rfl).trans ?_
  refine (vbnd_1 e1).trans ?_
  clear e1
  rcases (show e = 0 ∨ e = 1 ∨ e = 2 ∨ e = 3 ∨ e = 4 ∨ e = 5 ∨ e = 6 ∨ e = 7 ∨ e = 8 ∨ e = 9 ∨ e = 10 ∨ e = 11 by omega) with rfl | rfl | rfl | rfl | rfl | rfl | rfl | rfl | rfl | rfl | rfl | rfl <;> exact rfl
theorem ec2_7_3 {D F e : Nat} {f g : Vw} (he : e < 12) (h : vM MT0 D 67 [vR 31, vI e] f = some ((1, 0), vW 3, g)) : vFn (vM MT0 D) nb_X9_endContract (F + 1) 2 0 [vR 7, vI e, vI 3] [] f = some ((1, 0), vW 3, ecE 7 e g) := by
  refine (vF_g rfl rfl).trans ?_
  refine (vbnd_1 h).trans ?_
  clear h
  rcases (show e = 0 ∨ e = 1 ∨ e = 2 ∨ e = 3 ∨ e = 4 ∨ e = 5 ∨ e = 6 ∨ e = 7 ∨ e = 8 ∨ e = 9 ∨ e = 10 ∨ e = 11 by omega) with rfl | rfl | rfl | rfl | rfl | rfl | rfl | rfl | rfl | rfl | rfl | rfl <;> exact rfl
theorem v_hire_34 {D e : Nat} {f : Vw} (h3 : f 34 6 ≤ 3) : ∃ g, vM MT0 (D + 1) 66 [vR 34, vI e] f = some ((1, 0), vW 3, g) ∧ HrR 34 e f g := by
  by_cases q : f 34 6 < 3
  · refine ⟨hrG 34 e f, vM_go rfl rfl rfl rfl fun F hF => ?_, hrG_R q⟩
    refine (vF_g rfl rfl).trans ?_
    refine (vlt (x := f 34 6) (y := 3) (by decide) q).trans ?_
    refine (vF_g rfl rfl).trans ?_
    refine Eq.trans (b := gd (Nat.ble (f 34 6 + 1) 3) (vFn (vM MT0 D) nb_X8_hire (F + 58) 2 0 [vR 34, vI e] [] (vup (vup f 35 (f 34 6) e) 34 6 ((vup f 35 (f 34 6) e 34 6 + 1) % 4294967296)))) rfl ?_
    have e6 : vup f 35 (f 34 6) e 34 6 = f 34 6 := vup_ne (Or.inl (by decide))
    rw [Nat.ble_eq_true_of_le (show f 34 6 + 1 ≤ 3 by omega), e6, Nat.mod_eq_of_lt (show f 34 6 + 1 < 4294967296 by omega)]
    refine (vF_g rfl rfl).trans ?_
    exact rfl
  · refine ⟨f, vM_go rfl rfl rfl rfl fun F hF => ?_, by rw [if_neg q], h3, fun _ _ _ _ => rfl⟩
    refine (vF_g rfl rfl).trans ?_
    refine (vge2 (x := f 34 6) (y := 3) (by omega) (by omega)).trans ?_
    refine (vF_g rfl rfl).trans ?_
    exact rfl
theorem rl2_34 {D F i l e : Nat} {g : Vw} (hi : i < 3) : vFn (vM MT0 D) nb_X8_release (F + 1) 2 0 [vR 34, vI e, vI l, vI i] [] g = vc3 (bv (g 35 i)) (bv e) (vFn (vM MT0 D) nb_X8_release F 3 0 [vR 34, vI e, vI l, vI i] [] g) (vFn (vM MT0 D) nb_X8_release F 4 0 [vR 34, vI e, vI l, vI i] [] g) (vFn (vM MT0 D) nb_X8_release F 3 0 [vR 34, vI e, vI l, vI i] [] g) := by
  rcases (show i = 0 ∨ i = 1 ∨ i = 2 by omega) with rfl | rfl | rfl <;> exact (vF_g rfl rfl).trans rfl
theorem rl3_34 {D F i l e : Nat} {g : Vw} (hi : i < 3) (hl : l < 3) : vFn (vM MT0 D) nb_X8_release (F + 1) 3 0 [vR 34, vI e, vI l, vI i] [] g = vFn (vM MT0 D) nb_X8_release F 4 0 [vR 34, vI e, vI (l + 1), vI i] [] (vup g 35 l (g 35 i)) := by
  rcases (show i = 0 ∨ i = 1 ∨ i = 2 by omega) with rfl | rfl | rfl <;> rcases (show l = 0 ∨ l = 1 ∨ l = 2 by omega) with rfl | rfl | rfl <;> exact (vF_g rfl rfl).trans rfl
theorem rl4_34 {D F i l e : Nat} {g : Vw} (hi : i < 3) : vFn (vM MT0 D) nb_X8_release (F + 1) 4 0 [vR 34, vI e, vI l, vI i] [] g = vFn (vM MT0 D) nb_X8_release F 1 0 [vR 34, vI e, vI l, vI (i + 1)] [] g := by
  rcases (show i = 0 ∨ i = 1 ∨ i = 2 by omega) with rfl | rfl | rfl <;> exact (vF_g rfl rfl).trans rfl
theorem rl1l_34 {D F i l e : Nat} {g : Vw} (h : i < g 34 6) (h3 : g 34 6 ≤ 3) : vFn (vM MT0 D) nb_X8_release (F + 1) 1 0 [vR 34, vI e, vI l, vI i] [] g = vFn (vM MT0 D) nb_X8_release F 2 0 [vR 34, vI e, vI l, vI i] [] g := by
  refine (vF_g rfl rfl).trans ?_
  refine (vlt (x := i) (y := g 34 6) (by omega) h).trans ?_
  exact rfl
theorem rl1g_34 {D F i l e : Nat} {g : Vw} (h : g 34 6 ≤ i) (h3 : i ≤ 3) : vFn (vM MT0 D) nb_X8_release (F + 2) 1 0 [vR 34, vI e, vI l, vI i] [] g = some ((1, 0), vW 3, vup g 34 6 l) := by
  refine (vF_g rfl rfl).trans ?_
  refine (vge2 (x := i) (y := g 34 6) (by omega) h).trans ?_
  refine (vF_g rfl rfl).trans ?_
  exact rfl
theorem rlL_34 {D e : Nat} {f : Vw} (h3 : f 34 6 ≤ 3) (he : e < 4294967296) (hx : ∀ i, i < 3 → f 35 i < 4294967296) : ∀ (m i l F : Nat) (g : Vw), i + m = f 34 6 → l ≤ i → 4 * m + 2 ≤ F → rg9 (g 35) l = (rg9 (f 35) i).filter (fun x => decide (x ≠ e)) → (∀ j, i ≤ j → g 35 j = f 35 j) → (∀ a b, a ≠ 35 → g a b = f a b) → ∃ g', vFn (vM MT0 D) nb_X8_release F 1 0 [vR 34, vI e, vI l, vI i] [] g = some ((1, 0), vW 3, g') ∧ RlR 34 e f g' := by
  intro m
  induction m with
  | zero =>
    intro i l F g hi hl hF hq hs hg
    obtain ⟨F, rfl⟩ : ∃ F', F = F' + 2 := ⟨F - 2, by omega⟩
    have e6 := hg 34 6 (by decide)
    have hi : i = f 34 6 := by omega
    subst hi
    refine ⟨_, rl1g_34 (by omega) (by omega), ?_, ?_, fun a b h1 h2 => (vup_ne (by omega)).trans (hg a b h1)⟩
    · show rg9 (vup g 34 6 l 35) (vup g 34 6 l 34 6) = _
      rw [show vup g 34 6 l 34 6 = l from vup_eq, rg9_eq l (g := vup g 34 6 l 35) (h := g 35) (fun i _ => vup_ne (Or.inl (by decide)))]
      exact hq
    · rw [show vup g 34 6 l 34 6 = l from vup_eq]
      omega
  | succ m ih =>
    intro i l F g hi hl hF hq hs hg
    obtain ⟨F, rfl⟩ : ∃ F', F = F' + 4 := ⟨F - 4, by omega⟩
    have e6 := hg 34 6 (by decide)
    have ei := hs i (Nat.le_refl _)
    have hi3 : i < 3 := by omega
    have hl3 : l < 3 := by omega
    have hxi := hx i hi3
    by_cases q : f 35 i = e
    · obtain ⟨g', k1, k2⟩ := ih (i + 1) l (F + 1) g (by omega) (by omega) (by omega) (by rw [flt_s, if_pos q, List.append_nil]; exact hq) (fun j hj => hs j (by omega)) hg
      exact ⟨g', (rl1l_34 (F := F + 3) (by omega) (by omega)).trans ((rl2_34 (F := F + 2) hi3).trans ((veq (by rw [ei]; exact q)).trans ((rl4_34 (F := F + 1) hi3).trans k1))), k2⟩
    · obtain ⟨g', k1, k2⟩ := ih (i + 1) (l + 1) F (vup g 35 l (g 35 i)) (by omega) (by omega) (by omega) (by
        rw [flt_s, if_neg q, rg9_s, show vup g 35 l (g 35 i) 35 l = g 35 i from vup_eq, ei, ← hq]
        congr 1
        exact rg9_eq l (fun k hk => vup_ne (Or.inr (by omega)))) (fun j hj => (vup_ne (Or.inr (by omega))).trans (hs j (by omega))) (fun a b h => (vup_ne (Or.inl h)).trans (hg a b h))
      exact ⟨g', (rl1l_34 (F := F + 3) (by omega) (by omega)).trans ((rl2_34 (F := F + 2) hi3).trans ((vne (by rw [ei]; exact hxi) he (by rw [ei]; exact q)).trans ((rl3_34 (F := F + 1) hi3 hl3).trans ((rl4_34 (F := F) hi3).trans k1)))), k2⟩
theorem v_rel_34 {D e : Nat} {f : Vw} (h3 : f 34 6 ≤ 3) (he : e < 4294967296) (hx : ∀ i, i < 3 → f 35 i < 4294967296) : ∃ g, vM MT0 (D + 1) 67 [vR 34, vI e] f = some ((1, 0), vW 3, g) ∧ RlR 34 e f g := by
  obtain ⟨F, hF, go⟩ := vM_at (D := D) (y := 67) (as := [vR 34, vI e]) (f := f) rfl rfl rfl rfl
  obtain ⟨g', k1, k2⟩ := rlL_34 (D := D) h3 he hx (f 34 6) 0 0 (F + 59) f (by omega) (by omega) (by omega) rfl (fun _ _ => rfl) (fun _ _ _ => rfl)
  refine ⟨g', go _ ?_, k2⟩
  refine (vF_g rfl rfl).trans ?_
  exact k1
theorem v_emp_7_4 {D e : Nat} {f : Vw} (he : e < 12) (h3 : f 34 6 ≤ 3) : ∃ g, vM MT0 (D + 2) 85 [vR 7, vI 4, vI e] f = some ((1, 0), vW 3, emE 7 4 e g) ∧ HrR 34 e f g := by
  obtain ⟨g, e1, hg⟩ := v_hire_34 (D := D) (e := e) h3
  refine ⟨g, vM_go rfl rfl rfl rfl fun F hF => ?_, hg⟩
  refine (vF_g rfl rfl).trans ?_
  refine (vbnd_1 e1).trans ?_
  clear e1
  rcases (show e = 0 ∨ e = 1 ∨ e = 2 ∨ e = 3 ∨ e = 4 ∨ e = 5 ∨ e = 6 ∨ e = 7 ∨ e = 8 ∨ e = 9 ∨ e = 10 ∨ e = 11 by omega) with rfl | rfl | rfl | rfl | rfl | rfl | rfl | rfl | rfl | rfl | rfl | rfl <;> exact rfl
theorem ec2_7_4 {D F e : Nat} {f g : Vw} (he : e < 12) (h : vM MT0 D 67 [vR 34, vI e] f = some ((1, 0), vW 3, g)) : vFn (vM MT0 D) nb_X9_endContract (F + 1) 2 0 [vR 7, vI e, vI 4] [] f = some ((1, 0), vW 3, ecE 7 e g) := by
  refine (vF_g rfl rfl).trans ?_
  refine (vbnd_1 h).trans ?_
  clear h
  rcases (show e = 0 ∨ e = 1 ∨ e = 2 ∨ e = 3 ∨ e = 4 ∨ e = 5 ∨ e = 6 ∨ e = 7 ∨ e = 8 ∨ e = 9 ∨ e = 10 ∨ e = 11 by omega) with rfl | rfl | rfl | rfl | rfl | rfl | rfl | rfl | rfl | rfl | rfl | rfl <;> exact rfl
theorem v_hire_37 {D e : Nat} {f : Vw} (h3 : f 37 6 ≤ 3) : ∃ g, vM MT0 (D + 1) 66 [vR 37, vI e] f = some ((1, 0), vW 3, g) ∧ HrR 37 e f g := by
  by_cases q : f 37 6 < 3
  · refine ⟨hrG 37 e f, vM_go rfl rfl rfl rfl fun F hF => ?_, hrG_R q⟩
    refine (vF_g rfl rfl).trans ?_
    refine (vlt (x := f 37 6) (y := 3) (by decide) q).trans ?_
    refine (vF_g rfl rfl).trans ?_
    refine Eq.trans (b := gd (Nat.ble (f 37 6 + 1) 3) (vFn (vM MT0 D) nb_X8_hire (F + 58) 2 0 [vR 37, vI e] [] (vup (vup f 38 (f 37 6) e) 37 6 ((vup f 38 (f 37 6) e 37 6 + 1) % 4294967296)))) rfl ?_
    have e6 : vup f 38 (f 37 6) e 37 6 = f 37 6 := vup_ne (Or.inl (by decide))
    rw [Nat.ble_eq_true_of_le (show f 37 6 + 1 ≤ 3 by omega), e6, Nat.mod_eq_of_lt (show f 37 6 + 1 < 4294967296 by omega)]
    refine (vF_g rfl rfl).trans ?_
    exact rfl
  · refine ⟨f, vM_go rfl rfl rfl rfl fun F hF => ?_, by rw [if_neg q], h3, fun _ _ _ _ => rfl⟩
    refine (vF_g rfl rfl).trans ?_
    refine (vge2 (x := f 37 6) (y := 3) (by omega) (by omega)).trans ?_
    refine (vF_g rfl rfl).trans ?_
    exact rfl
theorem rl2_37 {D F i l e : Nat} {g : Vw} (hi : i < 3) : vFn (vM MT0 D) nb_X8_release (F + 1) 2 0 [vR 37, vI e, vI l, vI i] [] g = vc3 (bv (g 38 i)) (bv e) (vFn (vM MT0 D) nb_X8_release F 3 0 [vR 37, vI e, vI l, vI i] [] g) (vFn (vM MT0 D) nb_X8_release F 4 0 [vR 37, vI e, vI l, vI i] [] g) (vFn (vM MT0 D) nb_X8_release F 3 0 [vR 37, vI e, vI l, vI i] [] g) := by
  rcases (show i = 0 ∨ i = 1 ∨ i = 2 by omega) with rfl | rfl | rfl <;> exact (vF_g rfl rfl).trans rfl
theorem rl3_37 {D F i l e : Nat} {g : Vw} (hi : i < 3) (hl : l < 3) : vFn (vM MT0 D) nb_X8_release (F + 1) 3 0 [vR 37, vI e, vI l, vI i] [] g = vFn (vM MT0 D) nb_X8_release F 4 0 [vR 37, vI e, vI (l + 1), vI i] [] (vup g 38 l (g 38 i)) := by
  rcases (show i = 0 ∨ i = 1 ∨ i = 2 by omega) with rfl | rfl | rfl <;> rcases (show l = 0 ∨ l = 1 ∨ l = 2 by omega) with rfl | rfl | rfl <;> exact (vF_g rfl rfl).trans rfl
theorem rl4_37 {D F i l e : Nat} {g : Vw} (hi : i < 3) : vFn (vM MT0 D) nb_X8_release (F + 1) 4 0 [vR 37, vI e, vI l, vI i] [] g = vFn (vM MT0 D) nb_X8_release F 1 0 [vR 37, vI e, vI l, vI (i + 1)] [] g := by
  rcases (show i = 0 ∨ i = 1 ∨ i = 2 by omega) with rfl | rfl | rfl <;> exact (vF_g rfl rfl).trans rfl
theorem rl1l_37 {D F i l e : Nat} {g : Vw} (h : i < g 37 6) (h3 : g 37 6 ≤ 3) : vFn (vM MT0 D) nb_X8_release (F + 1) 1 0 [vR 37, vI e, vI l, vI i] [] g = vFn (vM MT0 D) nb_X8_release F 2 0 [vR 37, vI e, vI l, vI i] [] g := by
  refine (vF_g rfl rfl).trans ?_
  refine (vlt (x := i) (y := g 37 6) (by omega) h).trans ?_
  exact rfl
theorem rl1g_37 {D F i l e : Nat} {g : Vw} (h : g 37 6 ≤ i) (h3 : i ≤ 3) : vFn (vM MT0 D) nb_X8_release (F + 2) 1 0 [vR 37, vI e, vI l, vI i] [] g = some ((1, 0), vW 3, vup g 37 6 l) := by
  refine (vF_g rfl rfl).trans ?_
  refine (vge2 (x := i) (y := g 37 6) (by omega) h).trans ?_
  refine (vF_g rfl rfl).trans ?_
  exact rfl
theorem rlL_37 {D e : Nat} {f : Vw} (h3 : f 37 6 ≤ 3) (he : e < 4294967296) (hx : ∀ i, i < 3 → f 38 i < 4294967296) : ∀ (m i l F : Nat) (g : Vw), i + m = f 37 6 → l ≤ i → 4 * m + 2 ≤ F → rg9 (g 38) l = (rg9 (f 38) i).filter (fun x => decide (x ≠ e)) → (∀ j, i ≤ j → g 38 j = f 38 j) → (∀ a b, a ≠ 38 → g a b = f a b) → ∃ g', vFn (vM MT0 D) nb_X8_release F 1 0 [vR 37, vI e, vI l, vI i] [] g = some ((1, 0), vW 3, g') ∧ RlR 37 e f g' := by
  intro m
  induction m with
  | zero =>
    intro i l F g hi hl hF hq hs hg
    obtain ⟨F, rfl⟩ : ∃ F', F = F' + 2 := ⟨F - 2, by omega⟩
    have e6 := hg 37 6 (by decide)
    have hi : i = f 37 6 := by omega
    subst hi
    refine ⟨_, rl1g_37 (by omega) (by omega), ?_, ?_, fun a b h1 h2 => (vup_ne (by omega)).trans (hg a b h1)⟩
    · show rg9 (vup g 37 6 l 38) (vup g 37 6 l 37 6) = _
      rw [show vup g 37 6 l 37 6 = l from vup_eq, rg9_eq l (g := vup g 37 6 l 38) (h := g 38) (fun i _ => vup_ne (Or.inl (by decide)))]
      exact hq
    · rw [show vup g 37 6 l 37 6 = l from vup_eq]
      omega
  | succ m ih =>
    intro i l F g hi hl hF hq hs hg
    obtain ⟨F, rfl⟩ : ∃ F', F = F' + 4 := ⟨F - 4, by omega⟩
    have e6 := hg 37 6 (by decide)
    have ei := hs i (Nat.le_refl _)
    have hi3 : i < 3 := by omega
    have hl3 : l < 3 := by omega
    have hxi := hx i hi3
    by_cases q : f 38 i = e
    · obtain ⟨g', k1, k2⟩ := ih (i + 1) l (F + 1) g (by omega) (by omega) (by omega) (by rw [flt_s, if_pos q, List.append_nil]; exact hq) (fun j hj => hs j (by omega)) hg
      exact ⟨g', (rl1l_37 (F := F + 3) (by omega) (by omega)).trans ((rl2_37 (F := F + 2) hi3).trans ((veq (by rw [ei]; exact q)).trans ((rl4_37 (F := F + 1) hi3).trans k1))), k2⟩
    · obtain ⟨g', k1, k2⟩ := ih (i + 1) (l + 1) F (vup g 38 l (g 38 i)) (by omega) (by omega) (by omega) (by
        rw [flt_s, if_neg q, rg9_s, show vup g 38 l (g 38 i) 38 l = g 38 i from vup_eq, ei, ← hq]
        congr 1
        exact rg9_eq l (fun k hk => vup_ne (Or.inr (by omega)))) (fun j hj => (vup_ne (Or.inr (by omega))).trans (hs j (by omega))) (fun a b h => (vup_ne (Or.inl h)).trans (hg a b h))
      exact ⟨g', (rl1l_37 (F := F + 3) (by omega) (by omega)).trans ((rl2_37 (F := F + 2) hi3).trans ((vne (by rw [ei]; exact hxi) he (by rw [ei]; exact q)).trans ((rl3_37 (F := F + 1) hi3 hl3).trans ((rl4_37 (F := F) hi3).trans k1)))), k2⟩
theorem v_rel_37 {D e : Nat} {f : Vw} (h3 : f 37 6 ≤ 3) (he : e < 4294967296) (hx : ∀ i, i < 3 → f 38 i < 4294967296) : ∃ g, vM MT0 (D + 1) 67 [vR 37, vI e] f = some ((1, 0), vW 3, g) ∧ RlR 37 e f g := by
  obtain ⟨F, hF, go⟩ := vM_at (D := D) (y := 67) (as := [vR 37, vI e]) (f := f) rfl rfl rfl rfl
  obtain ⟨g', k1, k2⟩ := rlL_37 (D := D) h3 he hx (f 37 6) 0 0 (F + 59) f (by omega) (by omega) (by omega) rfl (fun _ _ => rfl) (fun _ _ _ => rfl)
  refine ⟨g', go _ ?_, k2⟩
  refine (vF_g rfl rfl).trans ?_
  exact k1
theorem v_emp_7_5 {D e : Nat} {f : Vw} (he : e < 12) (h3 : f 37 6 ≤ 3) : ∃ g, vM MT0 (D + 2) 85 [vR 7, vI 5, vI e] f = some ((1, 0), vW 3, emE 7 5 e g) ∧ HrR 37 e f g := by
  obtain ⟨g, e1, hg⟩ := v_hire_37 (D := D) (e := e) h3
  refine ⟨g, vM_go rfl rfl rfl rfl fun F hF => ?_, hg⟩
  refine (vF_g rfl rfl).trans ?_
  refine (vbnd_1 e1).trans ?_
  clear e1
  rcases (show e = 0 ∨ e = 1 ∨ e = 2 ∨ e = 3 ∨ e = 4 ∨ e = 5 ∨ e = 6 ∨ e = 7 ∨ e = 8 ∨ e = 9 ∨ e = 10 ∨ e = 11 by omega) with rfl | rfl | rfl | rfl | rfl | rfl | rfl | rfl | rfl | rfl | rfl | rfl <;> exact rfl
theorem ec2_7_5 {D F e : Nat} {f g : Vw} (he : e < 12) (h : vM MT0 D 67 [vR 37, vI e] f = some ((1, 0), vW 3, g)) : vFn (vM MT0 D) nb_X9_endContract (F + 1) 2 0 [vR 7, vI e, vI 5] [] f = some ((1, 0), vW 3, ecE 7 e g) := by
  refine (vF_g rfl rfl).trans ?_
  refine (vbnd_1 h).trans ?_
  clear h
  rcases (show e = 0 ∨ e = 1 ∨ e = 2 ∨ e = 3 ∨ e = 4 ∨ e = 5 ∨ e = 6 ∨ e = 7 ∨ e = 8 ∨ e = 9 ∨ e = 10 ∨ e = 11 by omega) with rfl | rfl | rfl | rfl | rfl | rfl | rfl | rfl | rfl | rfl | rfl | rfl <;> exact rfl
theorem v_hire_40 {D e : Nat} {f : Vw} (h3 : f 40 6 ≤ 3) : ∃ g, vM MT0 (D + 1) 66 [vR 40, vI e] f = some ((1, 0), vW 3, g) ∧ HrR 40 e f g := by
  by_cases q : f 40 6 < 3
  · refine ⟨hrG 40 e f, vM_go rfl rfl rfl rfl fun F hF => ?_, hrG_R q⟩
    refine (vF_g rfl rfl).trans ?_
    refine (vlt (x := f 40 6) (y := 3) (by decide) q).trans ?_
    refine (vF_g rfl rfl).trans ?_
    refine Eq.trans (b := gd (Nat.ble (f 40 6 + 1) 3) (vFn (vM MT0 D) nb_X8_hire (F + 58) 2 0 [vR 40, vI e] [] (vup (vup f 41 (f 40 6) e) 40 6 ((vup f 41 (f 40 6) e 40 6 + 1) % 4294967296)))) rfl ?_
    have e6 : vup f 41 (f 40 6) e 40 6 = f 40 6 := vup_ne (Or.inl (by decide))
    rw [Nat.ble_eq_true_of_le (show f 40 6 + 1 ≤ 3 by omega), e6, Nat.mod_eq_of_lt (show f 40 6 + 1 < 4294967296 by omega)]
    refine (vF_g rfl rfl).trans ?_
    exact rfl
  · refine ⟨f, vM_go rfl rfl rfl rfl fun F hF => ?_, by rw [if_neg q], h3, fun _ _ _ _ => rfl⟩
    refine (vF_g rfl rfl).trans ?_
    refine (vge2 (x := f 40 6) (y := 3) (by omega) (by omega)).trans ?_
    refine (vF_g rfl rfl).trans ?_
    exact rfl
theorem rl2_40 {D F i l e : Nat} {g : Vw} (hi : i < 3) : vFn (vM MT0 D) nb_X8_release (F + 1) 2 0 [vR 40, vI e, vI l, vI i] [] g = vc3 (bv (g 41 i)) (bv e) (vFn (vM MT0 D) nb_X8_release F 3 0 [vR 40, vI e, vI l, vI i] [] g) (vFn (vM MT0 D) nb_X8_release F 4 0 [vR 40, vI e, vI l, vI i] [] g) (vFn (vM MT0 D) nb_X8_release F 3 0 [vR 40, vI e, vI l, vI i] [] g) := by
  rcases (show i = 0 ∨ i = 1 ∨ i = 2 by omega) with rfl | rfl | rfl <;> exact (vF_g rfl rfl).trans rfl
theorem rl3_40 {D F i l e : Nat} {g : Vw} (hi : i < 3) (hl : l < 3) : vFn (vM MT0 D) nb_X8_release (F + 1) 3 0 [vR 40, vI e, vI l, vI i] [] g = vFn (vM MT0 D) nb_X8_release F 4 0 [vR 40, vI e, vI (l + 1), vI i] [] (vup g 41 l (g 41 i)) := by
  rcases (show i = 0 ∨ i = 1 ∨ i = 2 by omega) with rfl | rfl | rfl <;> rcases (show l = 0 ∨ l = 1 ∨ l = 2 by omega) with rfl | rfl | rfl <;> exact (vF_g rfl rfl).trans rfl
theorem rl4_40 {D F i l e : Nat} {g : Vw} (hi : i < 3) : vFn (vM MT0 D) nb_X8_release (F + 1) 4 0 [vR 40, vI e, vI l, vI i] [] g = vFn (vM MT0 D) nb_X8_release F 1 0 [vR 40, vI e, vI l, vI (i + 1)] [] g := by
  rcases (show i = 0 ∨ i = 1 ∨ i = 2 by omega) with rfl | rfl | rfl <;> exact (vF_g rfl rfl).trans rfl
theorem rl1l_40 {D F i l e : Nat} {g : Vw} (h : i < g 40 6) (h3 : g 40 6 ≤ 3) : vFn (vM MT0 D) nb_X8_release (F + 1) 1 0 [vR 40, vI e, vI l, vI i] [] g = vFn (vM MT0 D) nb_X8_release F 2 0 [vR 40, vI e, vI l, vI i] [] g := by
  refine (vF_g rfl rfl).trans ?_
  refine (vlt (x := i) (y := g 40 6) (by omega) h).trans ?_
  exact rfl
theorem rl1g_40 {D F i l e : Nat} {g : Vw} (h : g 40 6 ≤ i) (h3 : i ≤ 3) : vFn (vM MT0 D) nb_X8_release (F + 2) 1 0 [vR 40, vI e, vI l, vI i] [] g = some ((1, 0), vW 3, vup g 40 6 l) := by
  refine (vF_g rfl rfl).trans ?_
  refine (vge2 (x := i) (y := g 40 6) (by omega) h).trans ?_
  refine (vF_g rfl rfl).trans ?_
  exact rfl
theorem rlL_40 {D e : Nat} {f : Vw} (h3 : f 40 6 ≤ 3) (he : e < 4294967296) (hx : ∀ i, i < 3 → f 41 i < 4294967296) : ∀ (m i l F : Nat) (g : Vw), i + m = f 40 6 → l ≤ i → 4 * m + 2 ≤ F → rg9 (g 41) l = (rg9 (f 41) i).filter (fun x => decide (x ≠ e)) → (∀ j, i ≤ j → g 41 j = f 41 j) → (∀ a b, a ≠ 41 → g a b = f a b) → ∃ g', vFn (vM MT0 D) nb_X8_release F 1 0 [vR 40, vI e, vI l, vI i] [] g = some ((1, 0), vW 3, g') ∧ RlR 40 e f g' := by
  intro m
  induction m with
  | zero =>
    intro i l F g hi hl hF hq hs hg
    obtain ⟨F, rfl⟩ : ∃ F', F = F' + 2 := ⟨F - 2, by omega⟩
    have e6 := hg 40 6 (by decide)
    have hi : i = f 40 6 := by omega
    subst hi
    refine ⟨_, rl1g_40 (by omega) (by omega), ?_, ?_, fun a b h1 h2 => (vup_ne (by omega)).trans (hg a b h1)⟩
    · show rg9 (vup g 40 6 l 41) (vup g 40 6 l 40 6) = _
      rw [show vup g 40 6 l 40 6 = l from vup_eq, rg9_eq l (g := vup g 40 6 l 41) (h := g 41) (fun i _ => vup_ne (Or.inl (by decide)))]
      exact hq
    · rw [show vup g 40 6 l 40 6 = l from vup_eq]
      omega
  | succ m ih =>
    intro i l F g hi hl hF hq hs hg
    obtain ⟨F, rfl⟩ : ∃ F', F = F' + 4 := ⟨F - 4, by omega⟩
    have e6 := hg 40 6 (by decide)
    have ei := hs i (Nat.le_refl _)
    have hi3 : i < 3 := by omega
    have hl3 : l < 3 := by omega
    have hxi := hx i hi3
    by_cases q : f 41 i = e
    · obtain ⟨g', k1, k2⟩ := ih (i + 1) l (F + 1) g (by omega) (by omega) (by omega) (by rw [flt_s, if_pos q, List.append_nil]; exact hq) (fun j hj => hs j (by omega)) hg
      exact ⟨g', (rl1l_40 (F := F + 3) (by omega) (by omega)).trans ((rl2_40 (F := F + 2) hi3).trans ((veq (by rw [ei]; exact q)).trans ((rl4_40 (F := F + 1) hi3).trans k1))), k2⟩
    · obtain ⟨g', k1, k2⟩ := ih (i + 1) (l + 1) F (vup g 41 l (g 41 i)) (by omega) (by omega) (by omega) (by
        rw [flt_s, if_neg q, rg9_s, show vup g 41 l (g 41 i) 41 l = g 41 i from vup_eq, ei, ← hq]
        congr 1
        exact rg9_eq l (fun k hk => vup_ne (Or.inr (by omega)))) (fun j hj => (vup_ne (Or.inr (by omega))).trans (hs j (by omega))) (fun a b h => (vup_ne (Or.inl h)).trans (hg a b h))
      exact ⟨g', (rl1l_40 (F := F + 3) (by omega) (by omega)).trans ((rl2_40 (F := F + 2) hi3).trans ((vne (by rw [ei]; exact hxi) he (by rw [ei]; exact q)).trans ((rl3_40 (F := F + 1) hi3 hl3).trans ((rl4_40 (F := F) hi3).trans k1)))), k2⟩
theorem v_rel_40 {D e : Nat} {f : Vw} (h3 : f 40 6 ≤ 3) (he : e < 4294967296) (hx : ∀ i, i < 3 → f 41 i < 4294967296) : ∃ g, vM MT0 (D + 1) 67 [vR 40, vI e] f = some ((1, 0), vW 3, g) ∧ RlR 40 e f g := by
  obtain ⟨F, hF, go⟩ := vM_at (D := D) (y := 67) (as := [vR 40, vI e]) (f := f) rfl rfl rfl rfl
  obtain ⟨g', k1, k2⟩ := rlL_40 (D := D) h3 he hx (f 40 6) 0 0 (F + 59) f (by omega) (by omega) (by omega) rfl (fun _ _ => rfl) (fun _ _ _ => rfl)
  refine ⟨g', go _ ?_, k2⟩
  refine (vF_g rfl rfl).trans ?_
  exact k1
theorem v_emp_7_6 {D e : Nat} {f : Vw} (he : e < 12) (h3 : f 40 6 ≤ 3) : ∃ g, vM MT0 (D + 2) 85 [vR 7, vI 6, vI e] f = some ((1, 0), vW 3, emE 7 6 e g) ∧ HrR 40 e f g := by
  obtain ⟨g, e1, hg⟩ := v_hire_40 (D := D) (e := e) h3
  refine ⟨g, vM_go rfl rfl rfl rfl fun F hF => ?_, hg⟩
  refine (vF_g rfl rfl).trans ?_
  refine (vbnd_1 e1).trans ?_
  clear e1
  rcases (show e = 0 ∨ e = 1 ∨ e = 2 ∨ e = 3 ∨ e = 4 ∨ e = 5 ∨ e = 6 ∨ e = 7 ∨ e = 8 ∨ e = 9 ∨ e = 10 ∨ e = 11 by omega) with rfl | rfl | rfl | rfl | rfl | rfl | rfl | rfl | rfl | rfl | rfl | rfl <;> exact rfl
theorem ec2_7_6 {D F e : Nat} {f g : Vw} (he : e < 12) (h : vM MT0 D 67 [vR 40, vI e] f = some ((1, 0), vW 3, g)) : vFn (vM MT0 D) nb_X9_endContract (F + 1) 2 0 [vR 7, vI e, vI 6] [] f = some ((1, 0), vW 3, ecE 7 e g) := by
  refine (vF_g rfl rfl).trans ?_
  refine (vbnd_1 h).trans ?_
  clear h
  rcases (show e = 0 ∨ e = 1 ∨ e = 2 ∨ e = 3 ∨ e = 4 ∨ e = 5 ∨ e = 6 ∨ e = 7 ∨ e = 8 ∨ e = 9 ∨ e = 10 ∨ e = 11 by omega) with rfl | rfl | rfl | rfl | rfl | rfl | rfl | rfl | rfl | rfl | rfl | rfl <;> exact rfl
theorem v_hire_43 {D e : Nat} {f : Vw} (h3 : f 43 6 ≤ 3) : ∃ g, vM MT0 (D + 1) 66 [vR 43, vI e] f = some ((1, 0), vW 3, g) ∧ HrR 43 e f g := by
  by_cases q : f 43 6 < 3
  · refine ⟨hrG 43 e f, vM_go rfl rfl rfl rfl fun F hF => ?_, hrG_R q⟩
    refine (vF_g rfl rfl).trans ?_
    refine (vlt (x := f 43 6) (y := 3) (by decide) q).trans ?_
    refine (vF_g rfl rfl).trans ?_
    refine Eq.trans (b := gd (Nat.ble (f 43 6 + 1) 3) (vFn (vM MT0 D) nb_X8_hire (F + 58) 2 0 [vR 43, vI e] [] (vup (vup f 44 (f 43 6) e) 43 6 ((vup f 44 (f 43 6) e 43 6 + 1) % 4294967296)))) rfl ?_
    have e6 : vup f 44 (f 43 6) e 43 6 = f 43 6 := vup_ne (Or.inl (by decide))
    rw [Nat.ble_eq_true_of_le (show f 43 6 + 1 ≤ 3 by omega), e6, Nat.mod_eq_of_lt (show f 43 6 + 1 < 4294967296 by omega)]
    refine (vF_g rfl rfl).trans ?_
    exact rfl
  · refine ⟨f, vM_go rfl rfl rfl rfl fun F hF => ?_, by rw [if_neg q], h3, fun _ _ _ _ => rfl⟩
    refine (vF_g rfl rfl).trans ?_
    refine (vge2 (x := f 43 6) (y := 3) (by omega) (by omega)).trans ?_
    refine (vF_g rfl rfl).trans ?_
    exact rfl
theorem rl2_43 {D F i l e : Nat} {g : Vw} (hi : i < 3) : vFn (vM MT0 D) nb_X8_release (F + 1) 2 0 [vR 43, vI e, vI l, vI i] [] g = vc3 (bv (g 44 i)) (bv e) (vFn (vM MT0 D) nb_X8_release F 3 0 [vR 43, vI e, vI l, vI i] [] g) (vFn (vM MT0 D) nb_X8_release F 4 0 [vR 43, vI e, vI l, vI i] [] g) (vFn (vM MT0 D) nb_X8_release F 3 0 [vR 43, vI e, vI l, vI i] [] g) := by
  rcases (show i = 0 ∨ i = 1 ∨ i = 2 by omega) with rfl | rfl | rfl <;> exact (vF_g rfl rfl).trans rfl
theorem rl3_43 {D F i l e : Nat} {g : Vw} (hi : i < 3) (hl : l < 3) : vFn (vM MT0 D) nb_X8_release (F + 1) 3 0 [vR 43, vI e, vI l, vI i] [] g = vFn (vM MT0 D) nb_X8_release F 4 0 [vR 43, vI e, vI (l + 1), vI i] [] (vup g 44 l (g 44 i)) := by
  rcases (show i = 0 ∨ i = 1 ∨ i = 2 by omega) with rfl | rfl | rfl <;> rcases (show l = 0 ∨ l = 1 ∨ l = 2 by omega) with rfl | rfl | rfl <;> exact (vF_g rfl rfl).trans rfl
theorem rl4_43 {D F i l e : Nat} {g : Vw} (hi : i < 3) : vFn (vM MT0 D) nb_X8_release (F + 1) 4 0 [vR 43, vI e, vI l, vI i] [] g = vFn (vM MT0 D) nb_X8_release F 1 0 [vR 43, vI e, vI l, vI (i + 1)] [] g := by
  rcases (show i = 0 ∨ i = 1 ∨ i = 2 by omega) with rfl | rfl | rfl <;> exact (vF_g rfl rfl).trans rfl
theorem rl1l_43 {D F i l e : Nat} {g : Vw} (h : i < g 43 6) (h3 : g 43 6 ≤ 3) : vFn (vM MT0 D) nb_X8_release (F + 1) 1 0 [vR 43, vI e, vI l, vI i] [] g = vFn (vM MT0 D) nb_X8_release F 2 0 [vR 43, vI e, vI l, vI i] [] g := by
  refine (vF_g rfl rfl).trans ?_
  refine (vlt (x := i) (y := g 43 6) (by omega) h).trans ?_
  exact rfl
theorem rl1g_43 {D F i l e : Nat} {g : Vw} (h : g 43 6 ≤ i) (h3 : i ≤ 3) : vFn (vM MT0 D) nb_X8_release (F + 2) 1 0 [vR 43, vI e, vI l, vI i] [] g = some ((1, 0), vW 3, vup g 43 6 l) := by
  refine (vF_g rfl rfl).trans ?_
  refine (vge2 (x := i) (y := g 43 6) (by omega) h).trans ?_
  refine (vF_g rfl rfl).trans ?_
  exact rfl
theorem rlL_43 {D e : Nat} {f : Vw} (h3 : f 43 6 ≤ 3) (he : e < 4294967296) (hx : ∀ i, i < 3 → f 44 i < 4294967296) : ∀ (m i l F : Nat) (g : Vw), i + m = f 43 6 → l ≤ i → 4 * m + 2 ≤ F → rg9 (g 44) l = (rg9 (f 44) i).filter (fun x => decide (x ≠ e)) → (∀ j, i ≤ j → g 44 j = f 44 j) → (∀ a b, a ≠ 44 → g a b = f a b) → ∃ g', vFn (vM MT0 D) nb_X8_release F 1 0 [vR 43, vI e, vI l, vI i] [] g = some ((1, 0), vW 3, g') ∧ RlR 43 e f g' := by
  intro m
  induction m with
  | zero =>
    intro i l F g hi hl hF hq hs hg
    obtain ⟨F, rfl⟩ : ∃ F', F = F' + 2 := ⟨F - 2, by omega⟩
    have e6 := hg 43 6 (by decide)
    have hi : i = f 43 6 := by omega
    subst hi
    refine ⟨_, rl1g_43 (by omega) (by omega), ?_, ?_, fun a b h1 h2 => (vup_ne (by omega)).trans (hg a b h1)⟩
    · show rg9 (vup g 43 6 l 44) (vup g 43 6 l 43 6) = _
      rw [show vup g 43 6 l 43 6 = l from vup_eq, rg9_eq l (g := vup g 43 6 l 44) (h := g 44) (fun i _ => vup_ne (Or.inl (by decide)))]
      exact hq
    · rw [show vup g 43 6 l 43 6 = l from vup_eq]
      omega
  | succ m ih =>
    intro i l F g hi hl hF hq hs hg
    obtain ⟨F, rfl⟩ : ∃ F', F = F' + 4 := ⟨F - 4, by omega⟩
    have e6 := hg 43 6 (by decide)
    have ei := hs i (Nat.le_refl _)
    have hi3 : i < 3 := by omega
    have hl3 : l < 3 := by omega
    have hxi := hx i hi3
    by_cases q : f 44 i = e
    · obtain ⟨g', k1, k2⟩ := ih (i + 1) l (F + 1) g (by omega) (by omega) (by omega) (by rw [flt_s, if_pos q, List.append_nil]; exact hq) (fun j hj => hs j (by omega)) hg
      exact ⟨g', (rl1l_43 (F := F + 3) (by omega) (by omega)).trans ((rl2_43 (F := F + 2) hi3).trans ((veq (by rw [ei]; exact q)).trans ((rl4_43 (F := F + 1) hi3).trans k1))), k2⟩
    · obtain ⟨g', k1, k2⟩ := ih (i + 1) (l + 1) F (vup g 44 l (g 44 i)) (by omega) (by omega) (by omega) (by
        rw [flt_s, if_neg q, rg9_s, show vup g 44 l (g 44 i) 44 l = g 44 i from vup_eq, ei, ← hq]
        congr 1
        exact rg9_eq l (fun k hk => vup_ne (Or.inr (by omega)))) (fun j hj => (vup_ne (Or.inr (by omega))).trans (hs j (by omega))) (fun a b h => (vup_ne (Or.inl h)).trans (hg a b h))
      exact ⟨g', (rl1l_43 (F := F + 3) (by omega) (by omega)).trans ((rl2_43 (F := F + 2) hi3).trans ((vne (by rw [ei]; exact hxi) he (by rw [ei]; exact q)).trans ((rl3_43 (F := F + 1) hi3 hl3).trans ((rl4_43 (F := F) hi3).trans k1)))), k2⟩
theorem v_rel_43 {D e : Nat} {f : Vw} (h3 : f 43 6 ≤ 3) (he : e < 4294967296) (hx : ∀ i, i < 3 → f 44 i < 4294967296) : ∃ g, vM MT0 (D + 1) 67 [vR 43, vI e] f = some ((1, 0), vW 3, g) ∧ RlR 43 e f g := by
  obtain ⟨F, hF, go⟩ := vM_at (D := D) (y := 67) (as := [vR 43, vI e]) (f := f) rfl rfl rfl rfl
  obtain ⟨g', k1, k2⟩ := rlL_43 (D := D) h3 he hx (f 43 6) 0 0 (F + 59) f (by omega) (by omega) (by omega) rfl (fun _ _ => rfl) (fun _ _ _ => rfl)
  refine ⟨g', go _ ?_, k2⟩
  refine (vF_g rfl rfl).trans ?_
  exact k1
theorem v_emp_7_7 {D e : Nat} {f : Vw} (he : e < 12) (h3 : f 43 6 ≤ 3) : ∃ g, vM MT0 (D + 2) 85 [vR 7, vI 7, vI e] f = some ((1, 0), vW 3, emE 7 7 e g) ∧ HrR 43 e f g := by
  obtain ⟨g, e1, hg⟩ := v_hire_43 (D := D) (e := e) h3
  refine ⟨g, vM_go rfl rfl rfl rfl fun F hF => ?_, hg⟩
  refine (vF_g rfl rfl).trans ?_
  refine (vbnd_1 e1).trans ?_
  clear e1
  rcases (show e = 0 ∨ e = 1 ∨ e = 2 ∨ e = 3 ∨ e = 4 ∨ e = 5 ∨ e = 6 ∨ e = 7 ∨ e = 8 ∨ e = 9 ∨ e = 10 ∨ e = 11 by omega) with rfl | rfl | rfl | rfl | rfl | rfl | rfl | rfl | rfl | rfl | rfl | rfl <;> exact rfl
theorem ec2_7_7 {D F e : Nat} {f g : Vw} (he : e < 12) (h : vM MT0 D 67 [vR 43, vI e] f = some ((1, 0), vW 3, g)) : vFn (vM MT0 D) nb_X9_endContract (F + 1) 2 0 [vR 7, vI e, vI 7] [] f = some ((1, 0), vW 3, ecE 7 e g) := by
  refine (vF_g rfl rfl).trans ?_
  refine (vbnd_1 h).trans ?_
  clear h
  rcases (show e = 0 ∨ e = 1 ∨ e = 2 ∨ e = 3 ∨ e = 4 ∨ e = 5 ∨ e = 6 ∨ e = 7 ∨ e = 8 ∨ e = 9 ∨ e = 10 ∨ e = 11 by omega) with rfl | rfl | rfl | rfl | rfl | rfl | rfl | rfl | rfl | rfl | rfl | rfl <;> exact rfl
theorem v_emp_7 {D v e : Nat} {f : Vw} (hv : v < 8) (he : e < 12) (hb : StB f 7) : ∃ g, vM MT0 (D + 2) 85 [vR 7, vI v, vI e] f = some ((1, 0), vW 3, emE 7 v e g) ∧ HrR (7 + 15 + 3 * v) e f g := by
  have h3 := hb v hv
  rcases (show v = 0 ∨ v = 1 ∨ v = 2 ∨ v = 3 ∨ v = 4 ∨ v = 5 ∨ v = 6 ∨ v = 7 by omega) with q | q | q | q | q | q | q | q
  · subst q; exact v_emp_7_0 he h3
  · subst q; exact v_emp_7_1 he h3
  · subst q; exact v_emp_7_2 he h3
  · subst q; exact v_emp_7_3 he h3
  · subst q; exact v_emp_7_4 he h3
  · subst q; exact v_emp_7_5 he h3
  · subst q; exact v_emp_7_6 he h3
  · subst q; exact v_emp_7_7 he h3
theorem ec0_7 {D F e : Nat} {f : Vw} (he : e < 12) : vFn (vM MT0 D) nb_X9_endContract (F + 1) 0 0 (iniL 3 [vR 7, vI e]) [] f = vc3 (bv (f (7 + 3 + e) 7)) (bv 4294967295) (vFn (vM MT0 D) nb_X9_endContract F 2 0 [vR 7, vI e, vI (f (7 + 3 + e) 7)] [] f) (vFn (vM MT0 D) nb_X9_endContract F 1 0 [vR 7, vI e, vI (f (7 + 3 + e) 7)] [] f) (vFn (vM MT0 D) nb_X9_endContract F 2 0 [vR 7, vI e, vI (f (7 + 3 + e) 7)] [] f) := by
  rcases (show e = 0 ∨ e = 1 ∨ e = 2 ∨ e = 3 ∨ e = 4 ∨ e = 5 ∨ e = 6 ∨ e = 7 ∨ e = 8 ∨ e = 9 ∨ e = 10 ∨ e = 11 by omega) with rfl | rfl | rfl | rfl | rfl | rfl | rfl | rfl | rfl | rfl | rfl | rfl <;> exact (vF_g rfl rfl).trans rfl
theorem v_endC_7 {D e : Nat} {f : Vw} (he : e < 12) (hw : f (7 + 3 + e) 7 = 4294967295 ∨ f (7 + 3 + e) 7 < 8) (hb : StB f 7) (hx : ∀ v, v < 8 → ∀ i, i < 3 → f (7 + 16 + 3 * v) i < 4294967296) : ∃ g, vM MT0 (D + 2) 86 [vR 7, vI e] f = some ((1, 0), vW 3, g) ∧ (f (7 + 3 + e) 7 = 4294967295 → g = f) ∧ (f (7 + 3 + e) 7 < 8 → ∃ g1, RlR (7 + 15 + 3 * f (7 + 3 + e) 7) e f g1 ∧ g = ecE 7 e g1) := by
  rcases hw with hw | hw
  · refine ⟨f, vM_go rfl rfl rfl rfl fun F hF => (ec0_7 he).trans ((veq hw).trans ((vF_g rfl rfl).trans rfl)), fun _ => rfl, fun q => absurd q (by omega)⟩
  · have k : ∃ g1, vM MT0 (D + 1) 67 [vR (7 + 15 + 3 * f (7 + 3 + e) 7), vI e] f = some ((1, 0), vW 3, g1) ∧ RlR (7 + 15 + 3 * f (7 + 3 + e) 7) e f g1 := by
      have h3 := hb _ hw
      have hx := hx _ hw
      rcases (show f (7 + 3 + e) 7 = 0 ∨ f (7 + 3 + e) 7 = 1 ∨ f (7 + 3 + e) 7 = 2 ∨ f (7 + 3 + e) 7 = 3 ∨ f (7 + 3 + e) 7 = 4 ∨ f (7 + 3 + e) 7 = 5 ∨ f (7 + 3 + e) 7 = 6 ∨ f (7 + 3 + e) 7 = 7 by omega) with q | q | q | q | q | q | q | q
      · rw [q] at h3 hx ⊢; exact v_rel_22 h3 (by omega) hx
      · rw [q] at h3 hx ⊢; exact v_rel_25 h3 (by omega) hx
      · rw [q] at h3 hx ⊢; exact v_rel_28 h3 (by omega) hx
      · rw [q] at h3 hx ⊢; exact v_rel_31 h3 (by omega) hx
      · rw [q] at h3 hx ⊢; exact v_rel_34 h3 (by omega) hx
      · rw [q] at h3 hx ⊢; exact v_rel_37 h3 (by omega) hx
      · rw [q] at h3 hx ⊢; exact v_rel_40 h3 (by omega) hx
      · rw [q] at h3 hx ⊢; exact v_rel_43 h3 (by omega) hx
    obtain ⟨g1, k1, k2⟩ := k
    have k3 : ∀ F, vFn (vM MT0 (D + 1)) nb_X9_endContract (F + 1) 2 0 [vR 7, vI e, vI (f (7 + 3 + e) 7)] [] f = some ((1, 0), vW 3, ecE 7 e g1) := fun F => by
      clear k2
      rcases (show f (7 + 3 + e) 7 = 0 ∨ f (7 + 3 + e) 7 = 1 ∨ f (7 + 3 + e) 7 = 2 ∨ f (7 + 3 + e) 7 = 3 ∨ f (7 + 3 + e) 7 = 4 ∨ f (7 + 3 + e) 7 = 5 ∨ f (7 + 3 + e) 7 = 6 ∨ f (7 + 3 + e) 7 = 7 by omega) with q | q | q | q | q | q | q | q
      · rw [q] at k1 ⊢; exact ec2_7_0 he k1
      · rw [q] at k1 ⊢; exact ec2_7_1 he k1
      · rw [q] at k1 ⊢; exact ec2_7_2 he k1
      · rw [q] at k1 ⊢; exact ec2_7_3 he k1
      · rw [q] at k1 ⊢; exact ec2_7_4 he k1
      · rw [q] at k1 ⊢; exact ec2_7_5 he k1
      · rw [q] at k1 ⊢; exact ec2_7_6 he k1
      · rw [q] at k1 ⊢; exact ec2_7_7 he k1
    exact ⟨ecE 7 e g1, vM_go rfl rfl rfl rfl fun F hF => (ec0_7 he).trans ((vne (by omega) (by decide) (by omega)).trans (k3 _)), fun q => absurd q (by omega), fun _ => ⟨g1, k2, rfl⟩⟩
theorem endC_R_7 {e : Nat} {f g : Vw} (he : e < 12) (hw : f (7 + 3 + e) 7 = 4294967295 ∨ f (7 + 3 + e) 7 < 8) (h3 : f 7 3 ≤ 8) (hb : StB f 7) (h1 : f (7 + 3 + e) 7 = 4294967295 → g = f) (h2 : f (7 + 3 + e) 7 < 8 → ∃ g1, RlR (7 + 15 + 3 * f (7 + 3 + e) 7) e f g1 ∧ g = ecE 7 e g1) : KpS 7 f g := by
  rcases hw with hw | hw
  · rw [h1 hw]; exact kpS_rf hb
  · obtain ⟨g1, k1, k2⟩ := h2 hw
    rw [k2]; exact ec_R hw he h3 hb k1
theorem sg1l_7 {D F v : Nat} {x2 x4 : AV} {g : Vw} (h : v < g 7 3) (h8 : g 7 3 ≤ 8) : vFn (vM MT0 D) nb_X5_sign (F + 2) 1 0 [vR 440, vR 7, x2, vI v, x4] [] g = vFn (vM MT0 D) nb_X5_sign F 3 0 [vR 440, vR 7, x2, vI v, vI 0] [] g := by
  refine (vF_g rfl rfl).trans ?_
  refine (vlt (x := v) (y := g 7 3) (by omega) h).trans ?_
  refine (vF_g rfl rfl).trans ?_
  exact rfl
theorem sg1g_7 {D F v c : Nat} {x4 : AV} {g : Vw} (h : g 7 3 ≤ v) (h8 : v ≤ 8) : vFn (vM MT0 D) nb_X5_sign (F + 2) 1 0 [vR 440, vR 7, vI c, vI v, x4] [] g = some ((0, 0), vI c, g) := by
  refine (vF_g rfl rfl).trans ?_
  refine (vge2 (x := v) (y := g 7 3) (by omega) h).trans ?_
  refine (vF_g rfl rfl).trans ?_
  exact rfl
theorem sg3l_7 {D F v e : Nat} {x2 : AV} {g : Vw} (h : e < g 7 2) (h8 : g 7 2 ≤ 12) : vFn (vM MT0 D) nb_X5_sign (F + 2) 3 0 [vR 440, vR 7, x2, vI v, vI e] [] g = vc3 (bv (g 442 e)) (bv v) (vFn (vM MT0 D) nb_X5_sign F 6 0 [vR 440, vR 7, x2, vI v, vI e] [] g) (vFn (vM MT0 D) nb_X5_sign F 5 0 [vR 440, vR 7, x2, vI v, vI e] [] g) (vFn (vM MT0 D) nb_X5_sign F 6 0 [vR 440, vR 7, x2, vI v, vI e] [] g) := by
  refine (vF_g rfl rfl).trans ?_
  refine (vlt (x := e) (y := g 7 2) (by omega) h).trans ?_
  refine (vF_g rfl rfl).trans ?_
  have he : e < 12 := by omega
  clear h
  rcases (show e = 0 ∨ e = 1 ∨ e = 2 ∨ e = 3 ∨ e = 4 ∨ e = 5 ∨ e = 6 ∨ e = 7 ∨ e = 8 ∨ e = 9 ∨ e = 10 ∨ e = 11 by omega) with rfl | rfl | rfl | rfl | rfl | rfl | rfl | rfl | rfl | rfl | rfl | rfl <;> exact rfl
theorem sg3g_7 {D F v e c : Nat} {g : Vw} (h : g 7 2 ≤ e) (h8 : e ≤ 12) (hv : v < 8) : vFn (vM MT0 D) nb_X5_sign (F + 2) 3 0 [vR 440, vR 7, vI c, vI v, vI e] [] g = vFn (vM MT0 D) nb_X5_sign F 1 0 [vR 440, vR 7, vI c, vI (v + 1), vI e] [] g := by
  refine (vF_g rfl rfl).trans ?_
  refine (vge2 (x := e) (y := g 7 2) (by omega) h).trans ?_
  refine (vF_g rfl rfl).trans ?_
  rcases (show v = 0 ∨ v = 1 ∨ v = 2 ∨ v = 3 ∨ v = 4 ∨ v = 5 ∨ v = 6 ∨ v = 7 by omega) with rfl | rfl | rfl | rfl | rfl | rfl | rfl | rfl <;> exact rfl
theorem sg6_7 {D F v e : Nat} {x2 : AV} {g : Vw} (he : e < 12) : vFn (vM MT0 D) nb_X5_sign (F + 1) 6 0 [vR 440, vR 7, x2, vI v, vI e] [] g = vFn (vM MT0 D) nb_X5_sign F 3 0 [vR 440, vR 7, x2, vI v, vI (e + 1)] [] g := by
  refine (vF_g rfl rfl).trans ?_
  rcases (show e = 0 ∨ e = 1 ∨ e = 2 ∨ e = 3 ∨ e = 4 ∨ e = 5 ∨ e = 6 ∨ e = 7 ∨ e = 8 ∨ e = 9 ∨ e = 10 ∨ e = 11 by omega) with rfl | rfl | rfl | rfl | rfl | rfl | rfl | rfl | rfl | rfl | rfl | rfl <;> exact rfl
theorem sg5_7 {D F v e c : Nat} {f g : Vw} (h : vM MT0 D 85 [vR 7, vI v, vI e] f = some ((1, 0), vW 3, g)) : vFn (vM MT0 D) nb_X5_sign (F + 1) 5 0 [vR 440, vR 7, vI c, vI v, vI e] [] f = vFn (vM MT0 D) nb_X5_sign F 6 0 [vR 440, vR 7, vI ((c + 1) % 4294967296), vI v, vI e] [] g := by
  refine (vF_g rfl rfl).trans ?_
  refine (vbnd_1 h).trans ?_
  exact rfl
theorem sgI_7 {D : Nat} {f : Vw} (h2 : f 7 2 ≤ 12) (h3 : f 7 3 ≤ 8) (hk : ∀ i, i < 12 → f 442 i < 4294967296) : ∀ (m e v c F : Nat) (g : Vw), v < 8 → e + m = f 7 2 → 4 * m + 2 ≤ F → KpS 7 f g → ∃ (F' c' : Nat) (g' : Vw), F ≤ F' + 4 * m + 2 ∧ vFn (vM MT0 (D + 2)) nb_X5_sign F 3 0 [vR 440, vR 7, vI c, vI v, vI e] [] g = vFn (vM MT0 (D + 2)) nb_X5_sign F' 1 0 [vR 440, vR 7, vI c', vI (v + 1), vI (f 7 2)] [] g' ∧ KpS 7 f g' := by
  intro m
  induction m with
  | zero =>
    intro e v c F g hv he hF hg
    obtain ⟨F, rfl⟩ : ∃ F', F = F' + 2 := ⟨F - 2, by omega⟩
    have e2 := frS_A hg.2.2 (b := 2) (by decide) (by decide)
    have he : e = f 7 2 := by omega
    subst he
    exact ⟨F, c, g, by omega, sg3g_7 (by omega) (by omega) hv, hg⟩
  | succ m ih =>
    intro e v c F g hv he hF hg
    obtain ⟨F, rfl⟩ : ∃ F', F = F' + 4 := ⟨F - 4, by omega⟩
    have e2 := frS_A hg.2.2 (b := 2) (by decide) (by decide)
    have e3 := frS_A hg.2.2 (b := 3) (by decide) (by decide)
    have he12 : e < 12 := by omega
    have ek : g 442 e = f 442 e := hg.2.2 442 e (Or.inr (Or.inl (by decide)))
    have hke := hk e he12
    by_cases q : g 442 e = v
    · obtain ⟨g1, k1, k2⟩ := v_emp_7 (D := D) hv he12 hg.1
      obtain ⟨F', c', g', j1, j2, j3⟩ := ih (e + 1) v ((c + 1) % 4294967296) F (emE 7 v e g1) hv (by omega) (by omega) (kpS_tr hg (em_R hv (by omega) (by omega) (by omega) hg.1 k2))
      exact ⟨F', c', g', by omega, (sg3l_7 (F := F + 2) (by omega) (by omega)).trans ((veq q).trans ((sg5_7 (F := F + 1) k1).trans ((sg6_7 (F := F) he12).trans j2))), j3⟩
    · obtain ⟨F', c', g', j1, j2, j3⟩ := ih (e + 1) v c (F + 1) g hv (by omega) (by omega) hg
      exact ⟨F', c', g', by omega, (sg3l_7 (F := F + 2) (by omega) (by omega)).trans ((vne (by omega) (by omega) q).trans ((sg6_7 (F := F + 1) he12).trans j2)), j3⟩
theorem sgO_7 {D : Nat} {f : Vw} (h2 : f 7 2 ≤ 12) (h3 : f 7 3 ≤ 8) (hk : ∀ i, i < 12 → f 442 i < 4294967296) : ∀ (m v c F : Nat) (x4 : AV) (g : Vw), v + m = f 7 3 → 60 * m + 2 ≤ F → KpS 7 f g → ∃ (c' : Nat) (g' : Vw), vFn (vM MT0 (D + 2)) nb_X5_sign F 1 0 [vR 440, vR 7, vI c, vI v, x4] [] g = some ((0, 0), vI c', g') ∧ KpS 7 f g' := by
  intro m
  induction m with
  | zero =>
    intro v c F x4 g hv hF hg
    obtain ⟨F, rfl⟩ : ∃ F', F = F' + 2 := ⟨F - 2, by omega⟩
    have e3 := frS_A hg.2.2 (b := 3) (by decide) (by decide)
    exact ⟨c, g, sg1g_7 (by omega) (by omega), hg⟩
  | succ m ih =>
    intro v c F x4 g hv hF hg
    obtain ⟨F, rfl⟩ : ∃ F', F = F' + 2 := ⟨F - 2, by omega⟩
    have e3 := frS_A hg.2.2 (b := 3) (by decide) (by decide)
    obtain ⟨F1, c1, g1, j1, j2, j3⟩ := sgI_7 (D := D) h2 h3 hk (f 7 2) 0 v c F g (by omega) (by omega) (by omega) hg
    obtain ⟨c', g', k1, k2⟩ := ih (v + 1) c1 F1 (vI (f 7 2)) g1 (by omega) (by omega) j3
    exact ⟨c', g', (sg1l_7 (F := F) (by omega) (by omega)).trans (j2.trans k1), k2⟩
theorem v_sign_7 {D : Nat} {f : Vw} (h2 : f 7 2 ≤ 12) (h3 : f 7 3 ≤ 8) (hb : StB f 7) (hk : ∀ i, i < 12 → f 442 i < 4294967296) : ∃ (c : Nat) (g : Vw), vM MT0 (D + 3) 38 [vR 440, vR 7] f = some ((0, 0), vI c, g) ∧ KpS 7 f g := by
  obtain ⟨F, hF, go⟩ := vM_at (D := D + 2) (y := 38) (as := [vR 440, vR 7]) (f := f) rfl rfl rfl rfl
  obtain ⟨c, g', k1, k2⟩ := sgO_7 (D := D) h2 h3 hk (f 7 3) 0 0 (F + 59) (vW 3) f (by omega) (by omega) (kpS_rf hb)
  refine ⟨c, g', go _ ?_, k2⟩
  refine (vF_g rfl rfl).trans ?_
  exact k1
theorem v_hire_61 {D e : Nat} {f : Vw} (h3 : f 61 6 ≤ 3) : ∃ g, vM MT0 (D + 1) 66 [vR 61, vI e] f = some ((1, 0), vW 3, g) ∧ HrR 61 e f g := by
  by_cases q : f 61 6 < 3
  · refine ⟨hrG 61 e f, vM_go rfl rfl rfl rfl fun F hF => ?_, hrG_R q⟩
    refine (vF_g rfl rfl).trans ?_
    refine (vlt (x := f 61 6) (y := 3) (by decide) q).trans ?_
    refine (vF_g rfl rfl).trans ?_
    refine Eq.trans (b := gd (Nat.ble (f 61 6 + 1) 3) (vFn (vM MT0 D) nb_X8_hire (F + 58) 2 0 [vR 61, vI e] [] (vup (vup f 62 (f 61 6) e) 61 6 ((vup f 62 (f 61 6) e 61 6 + 1) % 4294967296)))) rfl ?_
    have e6 : vup f 62 (f 61 6) e 61 6 = f 61 6 := vup_ne (Or.inl (by decide))
    rw [Nat.ble_eq_true_of_le (show f 61 6 + 1 ≤ 3 by omega), e6, Nat.mod_eq_of_lt (show f 61 6 + 1 < 4294967296 by omega)]
    refine (vF_g rfl rfl).trans ?_
    exact rfl
  · refine ⟨f, vM_go rfl rfl rfl rfl fun F hF => ?_, by rw [if_neg q], h3, fun _ _ _ _ => rfl⟩
    refine (vF_g rfl rfl).trans ?_
    refine (vge2 (x := f 61 6) (y := 3) (by omega) (by omega)).trans ?_
    refine (vF_g rfl rfl).trans ?_
    exact rfl
theorem rl2_61 {D F i l e : Nat} {g : Vw} (hi : i < 3) : vFn (vM MT0 D) nb_X8_release (F + 1) 2 0 [vR 61, vI e, vI l, vI i] [] g = vc3 (bv (g 62 i)) (bv e) (vFn (vM MT0 D) nb_X8_release F 3 0 [vR 61, vI e, vI l, vI i] [] g) (vFn (vM MT0 D) nb_X8_release F 4 0 [vR 61, vI e, vI l, vI i] [] g) (vFn (vM MT0 D) nb_X8_release F 3 0 [vR 61, vI e, vI l, vI i] [] g) := by
  rcases (show i = 0 ∨ i = 1 ∨ i = 2 by omega) with rfl | rfl | rfl <;> exact (vF_g rfl rfl).trans rfl
theorem rl3_61 {D F i l e : Nat} {g : Vw} (hi : i < 3) (hl : l < 3) : vFn (vM MT0 D) nb_X8_release (F + 1) 3 0 [vR 61, vI e, vI l, vI i] [] g = vFn (vM MT0 D) nb_X8_release F 4 0 [vR 61, vI e, vI (l + 1), vI i] [] (vup g 62 l (g 62 i)) := by
  rcases (show i = 0 ∨ i = 1 ∨ i = 2 by omega) with rfl | rfl | rfl <;> rcases (show l = 0 ∨ l = 1 ∨ l = 2 by omega) with rfl | rfl | rfl <;> exact (vF_g rfl rfl).trans rfl
theorem rl4_61 {D F i l e : Nat} {g : Vw} (hi : i < 3) : vFn (vM MT0 D) nb_X8_release (F + 1) 4 0 [vR 61, vI e, vI l, vI i] [] g = vFn (vM MT0 D) nb_X8_release F 1 0 [vR 61, vI e, vI l, vI (i + 1)] [] g := by
  rcases (show i = 0 ∨ i = 1 ∨ i = 2 by omega) with rfl | rfl | rfl <;> exact (vF_g rfl rfl).trans rfl
theorem rl1l_61 {D F i l e : Nat} {g : Vw} (h : i < g 61 6) (h3 : g 61 6 ≤ 3) : vFn (vM MT0 D) nb_X8_release (F + 1) 1 0 [vR 61, vI e, vI l, vI i] [] g = vFn (vM MT0 D) nb_X8_release F 2 0 [vR 61, vI e, vI l, vI i] [] g := by
  refine (vF_g rfl rfl).trans ?_
  refine (vlt (x := i) (y := g 61 6) (by omega) h).trans ?_
  exact rfl
theorem rl1g_61 {D F i l e : Nat} {g : Vw} (h : g 61 6 ≤ i) (h3 : i ≤ 3) : vFn (vM MT0 D) nb_X8_release (F + 2) 1 0 [vR 61, vI e, vI l, vI i] [] g = some ((1, 0), vW 3, vup g 61 6 l) := by
  refine (vF_g rfl rfl).trans ?_
  refine (vge2 (x := i) (y := g 61 6) (by omega) h).trans ?_
  refine (vF_g rfl rfl).trans ?_
  exact rfl
theorem rlL_61 {D e : Nat} {f : Vw} (h3 : f 61 6 ≤ 3) (he : e < 4294967296) (hx : ∀ i, i < 3 → f 62 i < 4294967296) : ∀ (m i l F : Nat) (g : Vw), i + m = f 61 6 → l ≤ i → 4 * m + 2 ≤ F → rg9 (g 62) l = (rg9 (f 62) i).filter (fun x => decide (x ≠ e)) → (∀ j, i ≤ j → g 62 j = f 62 j) → (∀ a b, a ≠ 62 → g a b = f a b) → ∃ g', vFn (vM MT0 D) nb_X8_release F 1 0 [vR 61, vI e, vI l, vI i] [] g = some ((1, 0), vW 3, g') ∧ RlR 61 e f g' := by
  intro m
  induction m with
  | zero =>
    intro i l F g hi hl hF hq hs hg
    obtain ⟨F, rfl⟩ : ∃ F', F = F' + 2 := ⟨F - 2, by omega⟩
    have e6 := hg 61 6 (by decide)
    have hi : i = f 61 6 := by omega
    subst hi
    refine ⟨_, rl1g_61 (by omega) (by omega), ?_, ?_, fun a b h1 h2 => (vup_ne (by omega)).trans (hg a b h1)⟩
    · show rg9 (vup g 61 6 l 62) (vup g 61 6 l 61 6) = _
      rw [show vup g 61 6 l 61 6 = l from vup_eq, rg9_eq l (g := vup g 61 6 l 62) (h := g 62) (fun i _ => vup_ne (Or.inl (by decide)))]
      exact hq
    · rw [show vup g 61 6 l 61 6 = l from vup_eq]
      omega
  | succ m ih =>
    intro i l F g hi hl hF hq hs hg
    obtain ⟨F, rfl⟩ : ∃ F', F = F' + 4 := ⟨F - 4, by omega⟩
    have e6 := hg 61 6 (by decide)
    have ei := hs i (Nat.le_refl _)
    have hi3 : i < 3 := by omega
    have hl3 : l < 3 := by omega
    have hxi := hx i hi3
    by_cases q : f 62 i = e
    · obtain ⟨g', k1, k2⟩ := ih (i + 1) l (F + 1) g (by omega) (by omega) (by omega) (by rw [flt_s, if_pos q, List.append_nil]; exact hq) (fun j hj => hs j (by omega)) hg
      exact ⟨g', (rl1l_61 (F := F + 3) (by omega) (by omega)).trans ((rl2_61 (F := F + 2) hi3).trans ((veq (by rw [ei]; exact q)).trans ((rl4_61 (F := F + 1) hi3).trans k1))), k2⟩
    · obtain ⟨g', k1, k2⟩ := ih (i + 1) (l + 1) F (vup g 62 l (g 62 i)) (by omega) (by omega) (by omega) (by
        rw [flt_s, if_neg q, rg9_s, show vup g 62 l (g 62 i) 62 l = g 62 i from vup_eq, ei, ← hq]
        congr 1
        exact rg9_eq l (fun k hk => vup_ne (Or.inr (by omega)))) (fun j hj => (vup_ne (Or.inr (by omega))).trans (hs j (by omega))) (fun a b h => (vup_ne (Or.inl h)).trans (hg a b h))
      exact ⟨g', (rl1l_61 (F := F + 3) (by omega) (by omega)).trans ((rl2_61 (F := F + 2) hi3).trans ((vne (by rw [ei]; exact hxi) he (by rw [ei]; exact q)).trans ((rl3_61 (F := F + 1) hi3 hl3).trans ((rl4_61 (F := F) hi3).trans k1)))), k2⟩
theorem v_rel_61 {D e : Nat} {f : Vw} (h3 : f 61 6 ≤ 3) (he : e < 4294967296) (hx : ∀ i, i < 3 → f 62 i < 4294967296) : ∃ g, vM MT0 (D + 1) 67 [vR 61, vI e] f = some ((1, 0), vW 3, g) ∧ RlR 61 e f g := by
  obtain ⟨F, hF, go⟩ := vM_at (D := D) (y := 67) (as := [vR 61, vI e]) (f := f) rfl rfl rfl rfl
  obtain ⟨g', k1, k2⟩ := rlL_61 (D := D) h3 he hx (f 61 6) 0 0 (F + 59) f (by omega) (by omega) (by omega) rfl (fun _ _ => rfl) (fun _ _ _ => rfl)
  refine ⟨g', go _ ?_, k2⟩
  refine (vF_g rfl rfl).trans ?_
  exact k1
theorem v_emp_46_0 {D e : Nat} {f : Vw} (he : e < 12) (h3 : f 61 6 ≤ 3) : ∃ g, vM MT0 (D + 2) 85 [vR 46, vI 0, vI e] f = some ((1, 0), vW 3, emE 46 0 e g) ∧ HrR 61 e f g := by
  obtain ⟨g, e1, hg⟩ := v_hire_61 (D := D) (e := e) h3
  refine ⟨g, vM_go rfl rfl rfl rfl fun F hF => ?_, hg⟩
  refine (vF_g rfl rfl).trans ?_
  refine (vbnd_1 e1).trans ?_
  clear e1
  rcases (show e = 0 ∨ e = 1 ∨ e = 2 ∨ e = 3 ∨ e = 4 ∨ e = 5 ∨ e = 6 ∨ e = 7 ∨ e = 8 ∨ e = 9 ∨ e = 10 ∨ e = 11 by omega) with rfl | rfl | rfl | rfl | rfl | rfl | rfl | rfl | rfl | rfl | rfl | rfl <;> exact rfl
theorem ec2_46_0 {D F e : Nat} {f g : Vw} (he : e < 12) (h : vM MT0 D 67 [vR 61, vI e] f = some ((1, 0), vW 3, g)) : vFn (vM MT0 D) nb_X9_endContract (F + 1) 2 0 [vR 46, vI e, vI 0] [] f = some ((1, 0), vW 3, ecE 46 e g) := by
  refine (vF_g rfl rfl).trans ?_
  refine (vbnd_1 h).trans ?_
  clear h
  rcases (show e = 0 ∨ e = 1 ∨ e = 2 ∨ e = 3 ∨ e = 4 ∨ e = 5 ∨ e = 6 ∨ e = 7 ∨ e = 8 ∨ e = 9 ∨ e = 10 ∨ e = 11 by omega) with rfl | rfl | rfl | rfl | rfl | rfl | rfl | rfl | rfl | rfl | rfl | rfl <;> exact rfl
theorem v_hire_64 {D e : Nat} {f : Vw} (h3 : f 64 6 ≤ 3) : ∃ g, vM MT0 (D + 1) 66 [vR 64, vI e] f = some ((1, 0), vW 3, g) ∧ HrR 64 e f g := by
  by_cases q : f 64 6 < 3
  · refine ⟨hrG 64 e f, vM_go rfl rfl rfl rfl fun F hF => ?_, hrG_R q⟩
    refine (vF_g rfl rfl).trans ?_
    refine (vlt (x := f 64 6) (y := 3) (by decide) q).trans ?_
    refine (vF_g rfl rfl).trans ?_
    refine Eq.trans (b := gd (Nat.ble (f 64 6 + 1) 3) (vFn (vM MT0 D) nb_X8_hire (F + 58) 2 0 [vR 64, vI e] [] (vup (vup f 65 (f 64 6) e) 64 6 ((vup f 65 (f 64 6) e 64 6 + 1) % 4294967296)))) rfl ?_
    have e6 : vup f 65 (f 64 6) e 64 6 = f 64 6 := vup_ne (Or.inl (by decide))
    rw [Nat.ble_eq_true_of_le (show f 64 6 + 1 ≤ 3 by omega), e6, Nat.mod_eq_of_lt (show f 64 6 + 1 < 4294967296 by omega)]
    refine (vF_g rfl rfl).trans ?_
    exact rfl
  · refine ⟨f, vM_go rfl rfl rfl rfl fun F hF => ?_, by rw [if_neg q], h3, fun _ _ _ _ => rfl⟩
    refine (vF_g rfl rfl).trans ?_
    refine (vge2 (x := f 64 6) (y := 3) (by omega) (by omega)).trans ?_
    refine (vF_g rfl rfl).trans ?_
    exact rfl
theorem rl2_64 {D F i l e : Nat} {g : Vw} (hi : i < 3) : vFn (vM MT0 D) nb_X8_release (F + 1) 2 0 [vR 64, vI e, vI l, vI i] [] g = vc3 (bv (g 65 i)) (bv e) (vFn (vM MT0 D) nb_X8_release F 3 0 [vR 64, vI e, vI l, vI i] [] g) (vFn (vM MT0 D) nb_X8_release F 4 0 [vR 64, vI e, vI l, vI i] [] g) (vFn (vM MT0 D) nb_X8_release F 3 0 [vR 64, vI e, vI l, vI i] [] g) := by
  rcases (show i = 0 ∨ i = 1 ∨ i = 2 by omega) with rfl | rfl | rfl <;> exact (vF_g rfl rfl).trans rfl
theorem rl3_64 {D F i l e : Nat} {g : Vw} (hi : i < 3) (hl : l < 3) : vFn (vM MT0 D) nb_X8_release (F + 1) 3 0 [vR 64, vI e, vI l, vI i] [] g = vFn (vM MT0 D) nb_X8_release F 4 0 [vR 64, vI e, vI (l + 1), vI i] [] (vup g 65 l (g 65 i)) := by
  rcases (show i = 0 ∨ i = 1 ∨ i = 2 by omega) with rfl | rfl | rfl <;> rcases (show l = 0 ∨ l = 1 ∨ l = 2 by omega) with rfl | rfl | rfl <;> exact (vF_g rfl rfl).trans rfl
theorem rl4_64 {D F i l e : Nat} {g : Vw} (hi : i < 3) : vFn (vM MT0 D) nb_X8_release (F + 1) 4 0 [vR 64, vI e, vI l, vI i] [] g = vFn (vM MT0 D) nb_X8_release F 1 0 [vR 64, vI e, vI l, vI (i + 1)] [] g := by
  rcases (show i = 0 ∨ i = 1 ∨ i = 2 by omega) with rfl | rfl | rfl <;> exact (vF_g rfl rfl).trans rfl
theorem rl1l_64 {D F i l e : Nat} {g : Vw} (h : i < g 64 6) (h3 : g 64 6 ≤ 3) : vFn (vM MT0 D) nb_X8_release (F + 1) 1 0 [vR 64, vI e, vI l, vI i] [] g = vFn (vM MT0 D) nb_X8_release F 2 0 [vR 64, vI e, vI l, vI i] [] g := by
  refine (vF_g rfl rfl).trans ?_
  refine (vlt (x := i) (y := g 64 6) (by omega) h).trans ?_
  exact rfl
theorem rl1g_64 {D F i l e : Nat} {g : Vw} (h : g 64 6 ≤ i) (h3 : i ≤ 3) : vFn (vM MT0 D) nb_X8_release (F + 2) 1 0 [vR 64, vI e, vI l, vI i] [] g = some ((1, 0), vW 3, vup g 64 6 l) := by
  refine (vF_g rfl rfl).trans ?_
  refine (vge2 (x := i) (y := g 64 6) (by omega) h).trans ?_
  refine (vF_g rfl rfl).trans ?_
  exact rfl
theorem rlL_64 {D e : Nat} {f : Vw} (h3 : f 64 6 ≤ 3) (he : e < 4294967296) (hx : ∀ i, i < 3 → f 65 i < 4294967296) : ∀ (m i l F : Nat) (g : Vw), i + m = f 64 6 → l ≤ i → 4 * m + 2 ≤ F → rg9 (g 65) l = (rg9 (f 65) i).filter (fun x => decide (x ≠ e)) → (∀ j, i ≤ j → g 65 j = f 65 j) → (∀ a b, a ≠ 65 → g a b = f a b) → ∃ g', vFn (vM MT0 D) nb_X8_release F 1 0 [vR 64, vI e, vI l, vI i] [] g = some ((1, 0), vW 3, g') ∧ RlR 64 e f g' := by
  intro m
  induction m with
  | zero =>
    intro i l F g hi hl hF hq hs hg
    obtain ⟨F, rfl⟩ : ∃ F', F = F' + 2 := ⟨F - 2, by omega⟩
    have e6 := hg 64 6 (by decide)
    have hi : i = f 64 6 := by omega
    subst hi
    refine ⟨_, rl1g_64 (by omega) (by omega), ?_, ?_, fun a b h1 h2 => (vup_ne (by omega)).trans (hg a b h1)⟩
    · show rg9 (vup g 64 6 l 65) (vup g 64 6 l 64 6) = _
      rw [show vup g 64 6 l 64 6 = l from vup_eq, rg9_eq l (g := vup g 64 6 l 65) (h := g 65) (fun i _ => vup_ne (Or.inl (by decide)))]
      exact hq
    · rw [show vup g 64 6 l 64 6 = l from vup_eq]
      omega
  | succ m ih =>
    intro i l F g hi hl hF hq hs hg
    obtain ⟨F, rfl⟩ : ∃ F', F = F' + 4 := ⟨F - 4, by omega⟩
    have e6 := hg 64 6 (by decide)
    have ei := hs i (Nat.le_refl _)
    have hi3 : i < 3 := by omega
    have hl3 : l < 3 := by omega
    have hxi := hx i hi3
    by_cases q : f 65 i = e
    · obtain ⟨g', k1, k2⟩ := ih (i + 1) l (F + 1) g (by omega) (by omega) (by omega) (by rw [flt_s, if_pos q, List.append_nil]; exact hq) (fun j hj => hs j (by omega)) hg
      exact ⟨g', (rl1l_64 (F := F + 3) (by omega) (by omega)).trans ((rl2_64 (F := F + 2) hi3).trans ((veq (by rw [ei]; exact q)).trans ((rl4_64 (F := F + 1) hi3).trans k1))), k2⟩
    · obtain ⟨g', k1, k2⟩ := ih (i + 1) (l + 1) F (vup g 65 l (g 65 i)) (by omega) (by omega) (by omega) (by
        rw [flt_s, if_neg q, rg9_s, show vup g 65 l (g 65 i) 65 l = g 65 i from vup_eq, ei, ← hq]
        congr 1
        exact rg9_eq l (fun k hk => vup_ne (Or.inr (by omega)))) (fun j hj => (vup_ne (Or.inr (by omega))).trans (hs j (by omega))) (fun a b h => (vup_ne (Or.inl h)).trans (hg a b h))
      exact ⟨g', (rl1l_64 (F := F + 3) (by omega) (by omega)).trans ((rl2_64 (F := F + 2) hi3).trans ((vne (by rw [ei]; exact hxi) he (by rw [ei]; exact q)).trans ((rl3_64 (F := F + 1) hi3 hl3).trans ((rl4_64 (F := F) hi3).trans k1)))), k2⟩
theorem v_rel_64 {D e : Nat} {f : Vw} (h3 : f 64 6 ≤ 3) (he : e < 4294967296) (hx : ∀ i, i < 3 → f 65 i < 4294967296) : ∃ g, vM MT0 (D + 1) 67 [vR 64, vI e] f = some ((1, 0), vW 3, g) ∧ RlR 64 e f g := by
  obtain ⟨F, hF, go⟩ := vM_at (D := D) (y := 67) (as := [vR 64, vI e]) (f := f) rfl rfl rfl rfl
  obtain ⟨g', k1, k2⟩ := rlL_64 (D := D) h3 he hx (f 64 6) 0 0 (F + 59) f (by omega) (by omega) (by omega) rfl (fun _ _ => rfl) (fun _ _ _ => rfl)
  refine ⟨g', go _ ?_, k2⟩
  refine (vF_g rfl rfl).trans ?_
  exact k1
theorem v_emp_46_1 {D e : Nat} {f : Vw} (he : e < 12) (h3 : f 64 6 ≤ 3) : ∃ g, vM MT0 (D + 2) 85 [vR 46, vI 1, vI e] f = some ((1, 0), vW 3, emE 46 1 e g) ∧ HrR 64 e f g := by
  obtain ⟨g, e1, hg⟩ := v_hire_64 (D := D) (e := e) h3
  refine ⟨g, vM_go rfl rfl rfl rfl fun F hF => ?_, hg⟩
  refine (vF_g rfl rfl).trans ?_
  refine (vbnd_1 e1).trans ?_
  clear e1
  rcases (show e = 0 ∨ e = 1 ∨ e = 2 ∨ e = 3 ∨ e = 4 ∨ e = 5 ∨ e = 6 ∨ e = 7 ∨ e = 8 ∨ e = 9 ∨ e = 10 ∨ e = 11 by omega) with rfl | rfl | rfl | rfl | rfl | rfl | rfl | rfl | rfl | rfl | rfl | rfl <;> exact rfl
theorem ec2_46_1 {D F e : Nat} {f g : Vw} (he : e < 12) (h : vM MT0 D 67 [vR 64, vI e] f = some ((1, 0), vW 3, g)) : vFn (vM MT0 D) nb_X9_endContract (F + 1) 2 0 [vR 46, vI e, vI 1] [] f = some ((1, 0), vW 3, ecE 46 e g) := by
  refine (vF_g rfl rfl).trans ?_
  refine (vbnd_1 h).trans ?_
  clear h
  rcases (show e = 0 ∨ e = 1 ∨ e = 2 ∨ e = 3 ∨ e = 4 ∨ e = 5 ∨ e = 6 ∨ e = 7 ∨ e = 8 ∨ e = 9 ∨ e = 10 ∨ e = 11 by omega) with rfl | rfl | rfl | rfl | rfl | rfl | rfl | rfl | rfl | rfl | rfl | rfl <;> exact rfl
theorem v_hire_67 {D e : Nat} {f : Vw} (h3 : f 67 6 ≤ 3) : ∃ g, vM MT0 (D + 1) 66 [vR 67, vI e] f = some ((1, 0), vW 3, g) ∧ HrR 67 e f g := by
  by_cases q : f 67 6 < 3
  · refine ⟨hrG 67 e f, vM_go rfl rfl rfl rfl fun F hF => ?_, hrG_R q⟩
    refine (vF_g rfl rfl).trans ?_
    refine (vlt (x := f 67 6) (y := 3) (by decide) q).trans ?_
    refine (vF_g rfl rfl).trans ?_
    refine Eq.trans (b := gd (Nat.ble (f 67 6 + 1) 3) (vFn (vM MT0 D) nb_X8_hire (F + 58) 2 0 [vR 67, vI e] [] (vup (vup f 68 (f 67 6) e) 67 6 ((vup f 68 (f 67 6) e 67 6 + 1) % 4294967296)))) rfl ?_
    have e6 : vup f 68 (f 67 6) e 67 6 = f 67 6 := vup_ne (Or.inl (by decide))
    rw [Nat.ble_eq_true_of_le (show f 67 6 + 1 ≤ 3 by omega), e6, Nat.mod_eq_of_lt (show f 67 6 + 1 < 4294967296 by omega)]
    refine (vF_g rfl rfl).trans ?_
    exact rfl
  · refine ⟨f, vM_go rfl rfl rfl rfl fun F hF => ?_, by rw [if_neg q], h3, fun _ _ _ _ => rfl⟩
    refine (vF_g rfl rfl).trans ?_
    refine (vge2 (x := f 67 6) (y := 3) (by omega) (by omega)).trans ?_
    refine (vF_g rfl rfl).trans ?_
    exact rfl
theorem rl2_67 {D F i l e : Nat} {g : Vw} (hi : i < 3) : vFn (vM MT0 D) nb_X8_release (F + 1) 2 0 [vR 67, vI e, vI l, vI i] [] g = vc3 (bv (g 68 i)) (bv e) (vFn (vM MT0 D) nb_X8_release F 3 0 [vR 67, vI e, vI l, vI i] [] g) (vFn (vM MT0 D) nb_X8_release F 4 0 [vR 67, vI e, vI l, vI i] [] g) (vFn (vM MT0 D) nb_X8_release F 3 0 [vR 67, vI e, vI l, vI i] [] g) := by
  rcases (show i = 0 ∨ i = 1 ∨ i = 2 by omega) with rfl | rfl | rfl <;> exact (vF_g rfl rfl).trans rfl
theorem rl3_67 {D F i l e : Nat} {g : Vw} (hi : i < 3) (hl : l < 3) : vFn (vM MT0 D) nb_X8_release (F + 1) 3 0 [vR 67, vI e, vI l, vI i] [] g = vFn (vM MT0 D) nb_X8_release F 4 0 [vR 67, vI e, vI (l + 1), vI i] [] (vup g 68 l (g 68 i)) := by
  rcases (show i = 0 ∨ i = 1 ∨ i = 2 by omega) with rfl | rfl | rfl <;> rcases (show l = 0 ∨ l = 1 ∨ l = 2 by omega) with rfl | rfl | rfl <;> exact (vF_g rfl rfl).trans rfl
theorem rl4_67 {D F i l e : Nat} {g : Vw} (hi : i < 3) : vFn (vM MT0 D) nb_X8_release (F + 1) 4 0 [vR 67, vI e, vI l, vI i] [] g = vFn (vM MT0 D) nb_X8_release F 1 0 [vR 67, vI e, vI l, vI (i + 1)] [] g := by
  rcases (show i = 0 ∨ i = 1 ∨ i = 2 by omega) with rfl | rfl | rfl <;> exact (vF_g rfl rfl).trans rfl
theorem rl1l_67 {D F i l e : Nat} {g : Vw} (h : i < g 67 6) (h3 : g 67 6 ≤ 3) : vFn (vM MT0 D) nb_X8_release (F + 1) 1 0 [vR 67, vI e, vI l, vI i] [] g = vFn (vM MT0 D) nb_X8_release F 2 0 [vR 67, vI e, vI l, vI i] [] g := by
  refine (vF_g rfl rfl).trans ?_
  refine (vlt (x := i) (y := g 67 6) (by omega) h).trans ?_
  exact rfl
theorem rl1g_67 {D F i l e : Nat} {g : Vw} (h : g 67 6 ≤ i) (h3 : i ≤ 3) : vFn (vM MT0 D) nb_X8_release (F + 2) 1 0 [vR 67, vI e, vI l, vI i] [] g = some ((1, 0), vW 3, vup g 67 6 l) := by
  refine (vF_g rfl rfl).trans ?_
  refine (vge2 (x := i) (y := g 67 6) (by omega) h).trans ?_
  refine (vF_g rfl rfl).trans ?_
  exact rfl
theorem rlL_67 {D e : Nat} {f : Vw} (h3 : f 67 6 ≤ 3) (he : e < 4294967296) (hx : ∀ i, i < 3 → f 68 i < 4294967296) : ∀ (m i l F : Nat) (g : Vw), i + m = f 67 6 → l ≤ i → 4 * m + 2 ≤ F → rg9 (g 68) l = (rg9 (f 68) i).filter (fun x => decide (x ≠ e)) → (∀ j, i ≤ j → g 68 j = f 68 j) → (∀ a b, a ≠ 68 → g a b = f a b) → ∃ g', vFn (vM MT0 D) nb_X8_release F 1 0 [vR 67, vI e, vI l, vI i] [] g = some ((1, 0), vW 3, g') ∧ RlR 67 e f g' := by
  intro m
  induction m with
  | zero =>
    intro i l F g hi hl hF hq hs hg
    obtain ⟨F, rfl⟩ : ∃ F', F = F' + 2 := ⟨F - 2, by omega⟩
    have e6 := hg 67 6 (by decide)
    have hi : i = f 67 6 := by omega
    subst hi
    refine ⟨_, rl1g_67 (by omega) (by omega), ?_, ?_, fun a b h1 h2 => (vup_ne (by omega)).trans (hg a b h1)⟩
    · show rg9 (vup g 67 6 l 68) (vup g 67 6 l 67 6) = _
      rw [show vup g 67 6 l 67 6 = l from vup_eq, rg9_eq l (g := vup g 67 6 l 68) (h := g 68) (fun i _ => vup_ne (Or.inl (by decide)))]
      exact hq
    · rw [show vup g 67 6 l 67 6 = l from vup_eq]
      omega
  | succ m ih =>
    intro i l F g hi hl hF hq hs hg
    obtain ⟨F, rfl⟩ : ∃ F', F = F' + 4 := ⟨F - 4, by omega⟩
    have e6 := hg 67 6 (by decide)
    have ei := hs i (Nat.le_refl _)
    have hi3 : i < 3 := by omega
    have hl3 : l < 3 := by omega
    have hxi := hx i hi3
    by_cases q : f 68 i = e
    · obtain ⟨g', k1, k2⟩ := ih (i + 1) l (F + 1) g (by omega) (by omega) (by omega) (by rw [flt_s, if_pos q, List.append_nil]; exact hq) (fun j hj => hs j (by omega)) hg
      exact ⟨g', (rl1l_67 (F := F + 3) (by omega) (by omega)).trans ((rl2_67 (F := F + 2) hi3).trans ((veq (by rw [ei]; exact q)).trans ((rl4_67 (F := F + 1) hi3).trans k1))), k2⟩
    · obtain ⟨g', k1, k2⟩ := ih (i + 1) (l + 1) F (vup g 68 l (g 68 i)) (by omega) (by omega) (by omega) (by
        rw [flt_s, if_neg q, rg9_s, show vup g 68 l (g 68 i) 68 l = g 68 i from vup_eq, ei, ← hq]
        congr 1
        exact rg9_eq l (fun k hk => vup_ne (Or.inr (by omega)))) (fun j hj => (vup_ne (Or.inr (by omega))).trans (hs j (by omega))) (fun a b h => (vup_ne (Or.inl h)).trans (hg a b h))
      exact ⟨g', (rl1l_67 (F := F + 3) (by omega) (by omega)).trans ((rl2_67 (F := F + 2) hi3).trans ((vne (by rw [ei]; exact hxi) he (by rw [ei]; exact q)).trans ((rl3_67 (F := F + 1) hi3 hl3).trans ((rl4_67 (F := F) hi3).trans k1)))), k2⟩
theorem v_rel_67 {D e : Nat} {f : Vw} (h3 : f 67 6 ≤ 3) (he : e < 4294967296) (hx : ∀ i, i < 3 → f 68 i < 4294967296) : ∃ g, vM MT0 (D + 1) 67 [vR 67, vI e] f = some ((1, 0), vW 3, g) ∧ RlR 67 e f g := by
  obtain ⟨F, hF, go⟩ := vM_at (D := D) (y := 67) (as := [vR 67, vI e]) (f := f) rfl rfl rfl rfl
  obtain ⟨g', k1, k2⟩ := rlL_67 (D := D) h3 he hx (f 67 6) 0 0 (F + 59) f (by omega) (by omega) (by omega) rfl (fun _ _ => rfl) (fun _ _ _ => rfl)
  refine ⟨g', go _ ?_, k2⟩
  refine (vF_g rfl rfl).trans ?_
  exact k1
theorem v_emp_46_2 {D e : Nat} {f : Vw} (he : e < 12) (h3 : f 67 6 ≤ 3) : ∃ g, vM MT0 (D + 2) 85 [vR 46, vI 2, vI e] f = some ((1, 0), vW 3, emE 46 2 e g) ∧ HrR 67 e f g := by
  obtain ⟨g, e1, hg⟩ := v_hire_67 (D := D) (e := e) h3
  refine ⟨g, vM_go rfl rfl rfl rfl fun F hF => ?_, hg⟩
  refine (vF_g rfl rfl).trans ?_
  refine (vbnd_1 e1).trans ?_
  clear e1
  rcases (show e = 0 ∨ e = 1 ∨ e = 2 ∨ e = 3 ∨ e = 4 ∨ e = 5 ∨ e = 6 ∨ e = 7 ∨ e = 8 ∨ e = 9 ∨ e = 10 ∨ e = 11 by omega) with rfl | rfl | rfl | rfl | rfl | rfl | rfl | rfl | rfl | rfl | rfl | rfl <;> exact rfl
theorem ec2_46_2 {D F e : Nat} {f g : Vw} (he : e < 12) (h : vM MT0 D 67 [vR 67, vI e] f = some ((1, 0), vW 3, g)) : vFn (vM MT0 D) nb_X9_endContract (F + 1) 2 0 [vR 46, vI e, vI 2] [] f = some ((1, 0), vW 3, ecE 46 e g) := by
  refine (vF_g rfl rfl).trans ?_
  refine (vbnd_1 h).trans ?_
  clear h
  rcases (show e = 0 ∨ e = 1 ∨ e = 2 ∨ e = 3 ∨ e = 4 ∨ e = 5 ∨ e = 6 ∨ e = 7 ∨ e = 8 ∨ e = 9 ∨ e = 10 ∨ e = 11 by omega) with rfl | rfl | rfl | rfl | rfl | rfl | rfl | rfl | rfl | rfl | rfl | rfl <;> exact rfl
theorem v_hire_70 {D e : Nat} {f : Vw} (h3 : f 70 6 ≤ 3) : ∃ g, vM MT0 (D + 1) 66 [vR 70, vI e] f = some ((1, 0), vW 3, g) ∧ HrR 70 e f g := by
  by_cases q : f 70 6 < 3
  · refine ⟨hrG 70 e f, vM_go rfl rfl rfl rfl fun F hF => ?_, hrG_R q⟩
    refine (vF_g rfl rfl).trans ?_
    refine (vlt (x := f 70 6) (y := 3) (by decide) q).trans ?_
    refine (vF_g rfl rfl).trans ?_
    refine Eq.trans (b := gd (Nat.ble (f 70 6 + 1) 3) (vFn (vM MT0 D) nb_X8_hire (F + 58) 2 0 [vR 70, vI e] [] (vup (vup f 71 (f 70 6) e) 70 6 ((vup f 71 (f 70 6) e 70 6 + 1) % 4294967296)))) rfl ?_
    have e6 : vup f 71 (f 70 6) e 70 6 = f 70 6 := vup_ne (Or.inl (by decide))
    rw [Nat.ble_eq_true_of_le (show f 70 6 + 1 ≤ 3 by omega), e6, Nat.mod_eq_of_lt (show f 70 6 + 1 < 4294967296 by omega)]
    refine (vF_g rfl rfl).trans ?_
    exact rfl
  · refine ⟨f, vM_go rfl rfl rfl rfl fun F hF => ?_, by rw [if_neg q], h3, fun _ _ _ _ => rfl⟩
    refine (vF_g rfl rfl).trans ?_
    refine (vge2 (x := f 70 6) (y := 3) (by omega) (by omega)).trans ?_
    refine (vF_g rfl rfl).trans ?_
    exact rfl
theorem rl2_70 {D F i l e : Nat} {g : Vw} (hi : i < 3) : vFn (vM MT0 D) nb_X8_release (F + 1) 2 0 [vR 70, vI e, vI l, vI i] [] g = vc3 (bv (g 71 i)) (bv e) (vFn (vM MT0 D) nb_X8_release F 3 0 [vR 70, vI e, vI l, vI i] [] g) (vFn (vM MT0 D) nb_X8_release F 4 0 [vR 70, vI e, vI l, vI i] [] g) (vFn (vM MT0 D) nb_X8_release F 3 0 [vR 70, vI e, vI l, vI i] [] g) := by
  rcases (show i = 0 ∨ i = 1 ∨ i = 2 by omega) with rfl | rfl | rfl <;> exact (vF_g rfl rfl).trans rfl
theorem rl3_70 {D F i l e : Nat} {g : Vw} (hi : i < 3) (hl : l < 3) : vFn (vM MT0 D) nb_X8_release (F + 1) 3 0 [vR 70, vI e, vI l, vI i] [] g = vFn (vM MT0 D) nb_X8_release F 4 0 [vR 70, vI e, vI (l + 1), vI i] [] (vup g 71 l (g 71 i)) := by
  rcases (show i = 0 ∨ i = 1 ∨ i = 2 by omega) with rfl | rfl | rfl <;> rcases (show l = 0 ∨ l = 1 ∨ l = 2 by omega) with rfl | rfl | rfl <;> exact (vF_g rfl rfl).trans rfl
theorem rl4_70 {D F i l e : Nat} {g : Vw} (hi : i < 3) : vFn (vM MT0 D) nb_X8_release (F + 1) 4 0 [vR 70, vI e, vI l, vI i] [] g = vFn (vM MT0 D) nb_X8_release F 1 0 [vR 70, vI e, vI l, vI (i + 1)] [] g := by
  rcases (show i = 0 ∨ i = 1 ∨ i = 2 by omega) with rfl | rfl | rfl <;> exact (vF_g rfl rfl).trans rfl
theorem rl1l_70 {D F i l e : Nat} {g : Vw} (h : i < g 70 6) (h3 : g 70 6 ≤ 3) : vFn (vM MT0 D) nb_X8_release (F + 1) 1 0 [vR 70, vI e, vI l, vI i] [] g = vFn (vM MT0 D) nb_X8_release F 2 0 [vR 70, vI e, vI l, vI i] [] g := by
  refine (vF_g rfl rfl).trans ?_
  refine (vlt (x := i) (y := g 70 6) (by omega) h).trans ?_
  exact rfl
theorem rl1g_70 {D F i l e : Nat} {g : Vw} (h : g 70 6 ≤ i) (h3 : i ≤ 3) : vFn (vM MT0 D) nb_X8_release (F + 2) 1 0 [vR 70, vI e, vI l, vI i] [] g = some ((1, 0), vW 3, vup g 70 6 l) := by
  refine (vF_g rfl rfl).trans ?_
  refine (vge2 (x := i) (y := g 70 6) (by omega) h).trans ?_
  refine (vF_g rfl rfl).trans ?_
  exact rfl
theorem rlL_70 {D e : Nat} {f : Vw} (h3 : f 70 6 ≤ 3) (he : e < 4294967296) (hx : ∀ i, i < 3 → f 71 i < 4294967296) : ∀ (m i l F : Nat) (g : Vw), i + m = f 70 6 → l ≤ i → 4 * m + 2 ≤ F → rg9 (g 71) l = (rg9 (f 71) i).filter (fun x => decide (x ≠ e)) → (∀ j, i ≤ j → g 71 j = f 71 j) → (∀ a b, a ≠ 71 → g a b = f a b) → ∃ g', vFn (vM MT0 D) nb_X8_release F 1 0 [vR 70, vI e, vI l, vI i] [] g = some ((1, 0), vW 3, g') ∧ RlR 70 e f g' := by
  intro m
  induction m with
  | zero =>
    intro i l F g hi hl hF hq hs hg
    obtain ⟨F, rfl⟩ : ∃ F', F = F' + 2 := ⟨F - 2, by omega⟩
    have e6 := hg 70 6 (by decide)
    have hi : i = f 70 6 := by omega
    subst hi
    refine ⟨_, rl1g_70 (by omega) (by omega), ?_, ?_, fun a b h1 h2 => (vup_ne (by omega)).trans (hg a b h1)⟩
    · show rg9 (vup g 70 6 l 71) (vup g 70 6 l 70 6) = _
      rw [show vup g 70 6 l 70 6 = l from vup_eq, rg9_eq l (g := vup g 70 6 l 71) (h := g 71) (fun i _ => vup_ne (Or.inl (by decide)))]
      exact hq
    · rw [show vup g 70 6 l 70 6 = l from vup_eq]
      omega
  | succ m ih =>
    intro i l F g hi hl hF hq hs hg
    obtain ⟨F, rfl⟩ : ∃ F', F = F' + 4 := ⟨F - 4, by omega⟩
    have e6 := hg 70 6 (by decide)
    have ei := hs i (Nat.le_refl _)
    have hi3 : i < 3 := by omega
    have hl3 : l < 3 := by omega
    have hxi := hx i hi3
    by_cases q : f 71 i = e
    · obtain ⟨g', k1, k2⟩ := ih (i + 1) l (F + 1) g (by omega) (by omega) (by omega) (by rw [flt_s, if_pos q, List.append_nil]; exact hq) (fun j hj => hs j (by omega)) hg
      exact ⟨g', (rl1l_70 (F := F + 3) (by omega) (by omega)).trans ((rl2_70 (F := F + 2) hi3).trans ((veq (by rw [ei]; exact q)).trans ((rl4_70 (F := F + 1) hi3).trans k1))), k2⟩
    · obtain ⟨g', k1, k2⟩ := ih (i + 1) (l + 1) F (vup g 71 l (g 71 i)) (by omega) (by omega) (by omega) (by
        rw [flt_s, if_neg q, rg9_s, show vup g 71 l (g 71 i) 71 l = g 71 i from vup_eq, ei, ← hq]
        congr 1
        exact rg9_eq l (fun k hk => vup_ne (Or.inr (by omega)))) (fun j hj => (vup_ne (Or.inr (by omega))).trans (hs j (by omega))) (fun a b h => (vup_ne (Or.inl h)).trans (hg a b h))
      exact ⟨g', (rl1l_70 (F := F + 3) (by omega) (by omega)).trans ((rl2_70 (F := F + 2) hi3).trans ((vne (by rw [ei]; exact hxi) he (by rw [ei]; exact q)).trans ((rl3_70 (F := F + 1) hi3 hl3).trans ((rl4_70 (F := F) hi3).trans k1)))), k2⟩
theorem v_rel_70 {D e : Nat} {f : Vw} (h3 : f 70 6 ≤ 3) (he : e < 4294967296) (hx : ∀ i, i < 3 → f 71 i < 4294967296) : ∃ g, vM MT0 (D + 1) 67 [vR 70, vI e] f = some ((1, 0), vW 3, g) ∧ RlR 70 e f g := by
  obtain ⟨F, hF, go⟩ := vM_at (D := D) (y := 67) (as := [vR 70, vI e]) (f := f) rfl rfl rfl rfl
  obtain ⟨g', k1, k2⟩ := rlL_70 (D := D) h3 he hx (f 70 6) 0 0 (F + 59) f (by omega) (by omega) (by omega) rfl (fun _ _ => rfl) (fun _ _ _ => rfl)
  refine ⟨g', go _ ?_, k2⟩
  refine (vF_g rfl rfl).trans ?_
  exact k1
theorem v_emp_46_3 {D e : Nat} {f : Vw} (he : e < 12) (h3 : f 70 6 ≤ 3) : ∃ g, vM MT0 (D + 2) 85 [vR 46, vI 3, vI e] f = some ((1, 0), vW 3, emE 46 3 e g) ∧ HrR 70 e f g := by
  obtain ⟨g, e1, hg⟩ := v_hire_70 (D := D) (e := e) h3
  refine ⟨g, vM_go rfl rfl rfl rfl fun F hF => ?_, hg⟩
  refine (vF_g rfl rfl).trans ?_
  refine (vbnd_1 e1).trans ?_
  clear e1
  rcases (show e = 0 ∨ e = 1 ∨ e = 2 ∨ e = 3 ∨ e = 4 ∨ e = 5 ∨ e = 6 ∨ e = 7 ∨ e = 8 ∨ e = 9 ∨ e = 10 ∨ e = 11 by omega) with rfl | rfl | rfl | rfl | rfl | rfl | rfl | rfl | rfl | rfl | rfl | rfl <;> exact rfl
theorem ec2_46_3 {D F e : Nat} {f g : Vw} (he : e < 12) (h : vM MT0 D 67 [vR 70, vI e] f = some ((1, 0), vW 3, g)) : vFn (vM MT0 D) nb_X9_endContract (F + 1) 2 0 [vR 46, vI e, vI 3] [] f = some ((1, 0), vW 3, ecE 46 e g) := by
  refine (vF_g rfl rfl).trans ?_
  refine (vbnd_1 h).trans ?_
  clear h
  rcases (show e = 0 ∨ e = 1 ∨ e = 2 ∨ e = 3 ∨ e = 4 ∨ e = 5 ∨ e = 6 ∨ e = 7 ∨ e = 8 ∨ e = 9 ∨ e = 10 ∨ e = 11 by omega) with rfl | rfl | rfl | rfl | rfl | rfl | rfl | rfl | rfl | rfl | rfl | rfl <;> exact rfl
theorem v_hire_73 {D e : Nat} {f : Vw} (h3 : f 73 6 ≤ 3) : ∃ g, vM MT0 (D + 1) 66 [vR 73, vI e] f = some ((1, 0), vW 3, g) ∧ HrR 73 e f g := by
  by_cases q : f 73 6 < 3
  · refine ⟨hrG 73 e f, vM_go rfl rfl rfl rfl fun F hF => ?_, hrG_R q⟩
    refine (vF_g rfl rfl).trans ?_
    refine (vlt (x := f 73 6) (y := 3) (by decide) q).trans ?_
    refine (vF_g rfl rfl).trans ?_
    refine Eq.trans (b := gd (Nat.ble (f 73 6 + 1) 3) (vFn (vM MT0 D) nb_X8_hire (F + 58) 2 0 [vR 73, vI e] [] (vup (vup f 74 (f 73 6) e) 73 6 ((vup f 74 (f 73 6) e 73 6 + 1) % 4294967296)))) rfl ?_
    have e6 : vup f 74 (f 73 6) e 73 6 = f 73 6 := vup_ne (Or.inl (by decide))
    rw [Nat.ble_eq_true_of_le (show f 73 6 + 1 ≤ 3 by omega), e6, Nat.mod_eq_of_lt (show f 73 6 + 1 < 4294967296 by omega)]
    refine (vF_g rfl rfl).trans ?_
    exact rfl
  · refine ⟨f, vM_go rfl rfl rfl rfl fun F hF => ?_, by rw [if_neg q], h3, fun _ _ _ _ => rfl⟩
    refine (vF_g rfl rfl).trans ?_
    refine (vge2 (x := f 73 6) (y := 3) (by omega) (by omega)).trans ?_
    refine (vF_g rfl rfl).trans ?_
    exact rfl
theorem rl2_73 {D F i l e : Nat} {g : Vw} (hi : i < 3) : vFn (vM MT0 D) nb_X8_release (F + 1) 2 0 [vR 73, vI e, vI l, vI i] [] g = vc3 (bv (g 74 i)) (bv e) (vFn (vM MT0 D) nb_X8_release F 3 0 [vR 73, vI e, vI l, vI i] [] g) (vFn (vM MT0 D) nb_X8_release F 4 0 [vR 73, vI e, vI l, vI i] [] g) (vFn (vM MT0 D) nb_X8_release F 3 0 [vR 73, vI e, vI l, vI i] [] g) := by
  rcases (show i = 0 ∨ i = 1 ∨ i = 2 by omega) with rfl | rfl | rfl <;> exact (vF_g rfl rfl).trans rfl
theorem rl3_73 {D F i l e : Nat} {g : Vw} (hi : i < 3) (hl : l < 3) : vFn (vM MT0 D) nb_X8_release (F + 1) 3 0 [vR 73, vI e, vI l, vI i] [] g = vFn (vM MT0 D) nb_X8_release F 4 0 [vR 73, vI e, vI (l + 1), vI i] [] (vup g 74 l (g 74 i)) := by
  rcases (show i = 0 ∨ i = 1 ∨ i = 2 by omega) with rfl | rfl | rfl <;> rcases (show l = 0 ∨ l = 1 ∨ l = 2 by omega) with rfl | rfl | rfl <;> exact (vF_g rfl rfl).trans rfl
theorem rl4_73 {D F i l e : Nat} {g : Vw} (hi : i < 3) : vFn (vM MT0 D) nb_X8_release (F + 1) 4 0 [vR 73, vI e, vI l, vI i] [] g = vFn (vM MT0 D) nb_X8_release F 1 0 [vR 73, vI e, vI l, vI (i + 1)] [] g := by
  rcases (show i = 0 ∨ i = 1 ∨ i = 2 by omega) with rfl | rfl | rfl <;> exact (vF_g rfl rfl).trans rfl
theorem rl1l_73 {D F i l e : Nat} {g : Vw} (h : i < g 73 6) (h3 : g 73 6 ≤ 3) : vFn (vM MT0 D) nb_X8_release (F + 1) 1 0 [vR 73, vI e, vI l, vI i] [] g = vFn (vM MT0 D) nb_X8_release F 2 0 [vR 73, vI e, vI l, vI i] [] g := by
  refine (vF_g rfl rfl).trans ?_
  refine (vlt (x := i) (y := g 73 6) (by omega) h).trans ?_
  exact rfl
theorem rl1g_73 {D F i l e : Nat} {g : Vw} (h : g 73 6 ≤ i) (h3 : i ≤ 3) : vFn (vM MT0 D) nb_X8_release (F + 2) 1 0 [vR 73, vI e, vI l, vI i] [] g = some ((1, 0), vW 3, vup g 73 6 l) := by
  refine (vF_g rfl rfl).trans ?_
  refine (vge2 (x := i) (y := g 73 6) (by omega) h).trans ?_
  refine (vF_g rfl rfl).trans ?_
  exact rfl
theorem rlL_73 {D e : Nat} {f : Vw} (h3 : f 73 6 ≤ 3) (he : e < 4294967296) (hx : ∀ i, i < 3 → f 74 i < 4294967296) : ∀ (m i l F : Nat) (g : Vw), i + m = f 73 6 → l ≤ i → 4 * m + 2 ≤ F → rg9 (g 74) l = (rg9 (f 74) i).filter (fun x => decide (x ≠ e)) → (∀ j, i ≤ j → g 74 j = f 74 j) → (∀ a b, a ≠ 74 → g a b = f a b) → ∃ g', vFn (vM MT0 D) nb_X8_release F 1 0 [vR 73, vI e, vI l, vI i] [] g = some ((1, 0), vW 3, g') ∧ RlR 73 e f g' := by
  intro m
  induction m with
  | zero =>
    intro i l F g hi hl hF hq hs hg
    obtain ⟨F, rfl⟩ : ∃ F', F = F' + 2 := ⟨F - 2, by omega⟩
    have e6 := hg 73 6 (by decide)
    have hi : i = f 73 6 := by omega
    subst hi
    refine ⟨_, rl1g_73 (by omega) (by omega), ?_, ?_, fun a b h1 h2 => (vup_ne (by omega)).trans (hg a b h1)⟩
    · show rg9 (vup g 73 6 l 74) (vup g 73 6 l 73 6) = _
      rw [show vup g 73 6 l 73 6 = l from vup_eq, rg9_eq l (g := vup g 73 6 l 74) (h := g 74) (fun i _ => vup_ne (Or.inl (by decide)))]
      exact hq
    · rw [show vup g 73 6 l 73 6 = l from vup_eq]
      omega
  | succ m ih =>
    intro i l F g hi hl hF hq hs hg
    obtain ⟨F, rfl⟩ : ∃ F', F = F' + 4 := ⟨F - 4, by omega⟩
    have e6 := hg 73 6 (by decide)
    have ei := hs i (Nat.le_refl _)
    have hi3 : i < 3 := by omega
    have hl3 : l < 3 := by omega
    have hxi := hx i hi3
    by_cases q : f 74 i = e
    · obtain ⟨g', k1, k2⟩ := ih (i + 1) l (F + 1) g (by omega) (by omega) (by omega) (by rw [flt_s, if_pos q, List.append_nil]; exact hq) (fun j hj => hs j (by omega)) hg
      exact ⟨g', (rl1l_73 (F := F + 3) (by omega) (by omega)).trans ((rl2_73 (F := F + 2) hi3).trans ((veq (by rw [ei]; exact q)).trans ((rl4_73 (F := F + 1) hi3).trans k1))), k2⟩
    · obtain ⟨g', k1, k2⟩ := ih (i + 1) (l + 1) F (vup g 74 l (g 74 i)) (by omega) (by omega) (by omega) (by
        rw [flt_s, if_neg q, rg9_s, show vup g 74 l (g 74 i) 74 l = g 74 i from vup_eq, ei, ← hq]
        congr 1
        exact rg9_eq l (fun k hk => vup_ne (Or.inr (by omega)))) (fun j hj => (vup_ne (Or.inr (by omega))).trans (hs j (by omega))) (fun a b h => (vup_ne (Or.inl h)).trans (hg a b h))
      exact ⟨g', (rl1l_73 (F := F + 3) (by omega) (by omega)).trans ((rl2_73 (F := F + 2) hi3).trans ((vne (by rw [ei]; exact hxi) he (by rw [ei]; exact q)).trans ((rl3_73 (F := F + 1) hi3 hl3).trans ((rl4_73 (F := F) hi3).trans k1)))), k2⟩
theorem v_rel_73 {D e : Nat} {f : Vw} (h3 : f 73 6 ≤ 3) (he : e < 4294967296) (hx : ∀ i, i < 3 → f 74 i < 4294967296) : ∃ g, vM MT0 (D + 1) 67 [vR 73, vI e] f = some ((1, 0), vW 3, g) ∧ RlR 73 e f g := by
  obtain ⟨F, hF, go⟩ := vM_at (D := D) (y := 67) (as := [vR 73, vI e]) (f := f) rfl rfl rfl rfl
  obtain ⟨g', k1, k2⟩ := rlL_73 (D := D) h3 he hx (f 73 6) 0 0 (F + 59) f (by omega) (by omega) (by omega) rfl (fun _ _ => rfl) (fun _ _ _ => rfl)
  refine ⟨g', go _ ?_, k2⟩
  refine (vF_g rfl rfl).trans ?_
  exact k1
theorem v_emp_46_4 {D e : Nat} {f : Vw} (he : e < 12) (h3 : f 73 6 ≤ 3) : ∃ g, vM MT0 (D + 2) 85 [vR 46, vI 4, vI e] f = some ((1, 0), vW 3, emE 46 4 e g) ∧ HrR 73 e f g := by
  obtain ⟨g, e1, hg⟩ := v_hire_73 (D := D) (e := e) h3
  refine ⟨g, vM_go rfl rfl rfl rfl fun F hF => ?_, hg⟩
  refine (vF_g rfl rfl).trans ?_
  refine (vbnd_1 e1).trans ?_
  clear e1
  rcases (show e = 0 ∨ e = 1 ∨ e = 2 ∨ e = 3 ∨ e = 4 ∨ e = 5 ∨ e = 6 ∨ e = 7 ∨ e = 8 ∨ e = 9 ∨ e = 10 ∨ e = 11 by omega) with rfl | rfl | rfl | rfl | rfl | rfl | rfl | rfl | rfl | rfl | rfl | rfl <;> exact rfl
theorem ec2_46_4 {D F e : Nat} {f g : Vw} (he : e < 12) (h : vM MT0 D 67 [vR 73, vI e] f = some ((1, 0), vW 3, g)) : vFn (vM MT0 D) nb_X9_endContract (F + 1) 2 0 [vR 46, vI e, vI 4] [] f = some ((1, 0), vW 3, ecE 46 e g) := by
  refine (vF_g rfl rfl).trans ?_
  refine (vbnd_1 h).trans ?_
  clear h
  rcases (show e = 0 ∨ e = 1 ∨ e = 2 ∨ e = 3 ∨ e = 4 ∨ e = 5 ∨ e = 6 ∨ e = 7 ∨ e = 8 ∨ e = 9 ∨ e = 10 ∨ e = 11 by omega) with rfl | rfl | rfl | rfl | rfl | rfl | rfl | rfl | rfl | rfl | rfl | rfl <;> exact rfl
theorem v_hire_76 {D e : Nat} {f : Vw} (h3 : f 76 6 ≤ 3) : ∃ g, vM MT0 (D + 1) 66 [vR 76, vI e] f = some ((1, 0), vW 3, g) ∧ HrR 76 e f g := by
  by_cases q : f 76 6 < 3
  · refine ⟨hrG 76 e f, vM_go rfl rfl rfl rfl fun F hF => ?_, hrG_R q⟩
    refine (vF_g rfl rfl).trans ?_
    refine (vlt (x := f 76 6) (y := 3) (by decide) q).trans ?_
    refine (vF_g rfl rfl).trans ?_
    refine Eq.trans (b := gd (Nat.ble (f 76 6 + 1) 3) (vFn (vM MT0 D) nb_X8_hire (F + 58) 2 0 [vR 76, vI e] [] (vup (vup f 77 (f 76 6) e) 76 6 ((vup f 77 (f 76 6) e 76 6 + 1) % 4294967296)))) rfl ?_
    have e6 : vup f 77 (f 76 6) e 76 6 = f 76 6 := vup_ne (Or.inl (by decide))
    rw [Nat.ble_eq_true_of_le (show f 76 6 + 1 ≤ 3 by omega), e6, Nat.mod_eq_of_lt (show f 76 6 + 1 < 4294967296 by omega)]
    refine (vF_g rfl rfl).trans ?_
    exact rfl
  · refine ⟨f, vM_go rfl rfl rfl rfl fun F hF => ?_, by rw [if_neg q], h3, fun _ _ _ _ => rfl⟩
    refine (vF_g rfl rfl).trans ?_
    refine (vge2 (x := f 76 6) (y := 3) (by omega) (by omega)).trans ?_
    refine (vF_g rfl rfl).trans ?_
    exact rfl
theorem rl2_76 {D F i l e : Nat} {g : Vw} (hi : i < 3) : vFn (vM MT0 D) nb_X8_release (F + 1) 2 0 [vR 76, vI e, vI l, vI i] [] g = vc3 (bv (g 77 i)) (bv e) (vFn (vM MT0 D) nb_X8_release F 3 0 [vR 76, vI e, vI l, vI i] [] g) (vFn (vM MT0 D) nb_X8_release F 4 0 [vR 76, vI e, vI l, vI i] [] g) (vFn (vM MT0 D) nb_X8_release F 3 0 [vR 76, vI e, vI l, vI i] [] g) := by
  rcases (show i = 0 ∨ i = 1 ∨ i = 2 by omega) with rfl | rfl | rfl <;> exact (vF_g rfl rfl).trans rfl
theorem rl3_76 {D F i l e : Nat} {g : Vw} (hi : i < 3) (hl : l < 3) : vFn (vM MT0 D) nb_X8_release (F + 1) 3 0 [vR 76, vI e, vI l, vI i] [] g = vFn (vM MT0 D) nb_X8_release F 4 0 [vR 76, vI e, vI (l + 1), vI i] [] (vup g 77 l (g 77 i)) := by
  rcases (show i = 0 ∨ i = 1 ∨ i = 2 by omega) with rfl | rfl | rfl <;> rcases (show l = 0 ∨ l = 1 ∨ l = 2 by omega) with rfl | rfl | rfl <;> exact (vF_g rfl rfl).trans rfl
theorem rl4_76 {D F i l e : Nat} {g : Vw} (hi : i < 3) : vFn (vM MT0 D) nb_X8_release (F + 1) 4 0 [vR 76, vI e, vI l, vI i] [] g = vFn (vM MT0 D) nb_X8_release F 1 0 [vR 76, vI e, vI l, vI (i + 1)] [] g := by
  rcases (show i = 0 ∨ i = 1 ∨ i = 2 by omega) with rfl | rfl | rfl <;> exact (vF_g rfl rfl).trans rfl
theorem rl1l_76 {D F i l e : Nat} {g : Vw} (h : i < g 76 6) (h3 : g 76 6 ≤ 3) : vFn (vM MT0 D) nb_X8_release (F + 1) 1 0 [vR 76, vI e, vI l, vI i] [] g = vFn (vM MT0 D) nb_X8_release F 2 0 [vR 76, vI e, vI l, vI i] [] g := by
  refine (vF_g rfl rfl).trans ?_
  refine (vlt (x := i) (y := g 76 6) (by omega) h).trans ?_
  exact rfl
theorem rl1g_76 {D F i l e : Nat} {g : Vw} (h : g 76 6 ≤ i) (h3 : i ≤ 3) : vFn (vM MT0 D) nb_X8_release (F + 2) 1 0 [vR 76, vI e, vI l, vI i] [] g = some ((1, 0), vW 3, vup g 76 6 l) := by
  refine (vF_g rfl rfl).trans ?_
  refine (vge2 (x := i) (y := g 76 6) (by omega) h).trans ?_
  refine (vF_g rfl rfl).trans ?_
  exact rfl
theorem rlL_76 {D e : Nat} {f : Vw} (h3 : f 76 6 ≤ 3) (he : e < 4294967296) (hx : ∀ i, i < 3 → f 77 i < 4294967296) : ∀ (m i l F : Nat) (g : Vw), i + m = f 76 6 → l ≤ i → 4 * m + 2 ≤ F → rg9 (g 77) l = (rg9 (f 77) i).filter (fun x => decide (x ≠ e)) → (∀ j, i ≤ j → g 77 j = f 77 j) → (∀ a b, a ≠ 77 → g a b = f a b) → ∃ g', vFn (vM MT0 D) nb_X8_release F 1 0 [vR 76, vI e, vI l, vI i] [] g = some ((1, 0), vW 3, g') ∧ RlR 76 e f g' := by
  intro m
  induction m with
  | zero =>
    intro i l F g hi hl hF hq hs hg
    obtain ⟨F, rfl⟩ : ∃ F', F = F' + 2 := ⟨F - 2, by omega⟩
    have e6 := hg 76 6 (by decide)
    have hi : i = f 76 6 := by omega
    subst hi
    refine ⟨_, rl1g_76 (by omega) (by omega), ?_, ?_, fun a b h1 h2 => (vup_ne (by omega)).trans (hg a b h1)⟩
    · show rg9 (vup g 76 6 l 77) (vup g 76 6 l 76 6) = _
      rw [show vup g 76 6 l 76 6 = l from vup_eq, rg9_eq l (g := vup g 76 6 l 77) (h := g 77) (fun i _ => vup_ne (Or.inl (by decide)))]
      exact hq
    · rw [show vup g 76 6 l 76 6 = l from vup_eq]
      omega
  | succ m ih =>
    intro i l F g hi hl hF hq hs hg
    obtain ⟨F, rfl⟩ : ∃ F', F = F' + 4 := ⟨F - 4, by omega⟩
    have e6 := hg 76 6 (by decide)
    have ei := hs i (Nat.le_refl _)
    have hi3 : i < 3 := by omega
    have hl3 : l < 3 := by omega
    have hxi := hx i hi3
    by_cases q : f 77 i = e
    · obtain ⟨g', k1, k2⟩ := ih (i + 1) l (F + 1) g (by omega) (by omega) (by omega) (by rw [flt_s, if_pos q, List.append_nil]; exact hq) (fun j hj => hs j (by omega)) hg
      exact ⟨g', (rl1l_76 (F := F + 3) (by omega) (by omega)).trans ((rl2_76 (F := F + 2) hi3).trans ((veq (by rw [ei]; exact q)).trans ((rl4_76 (F := F + 1) hi3).trans k1))), k2⟩
    · obtain ⟨g', k1, k2⟩ := ih (i + 1) (l + 1) F (vup g 77 l (g 77 i)) (by omega) (by omega) (by omega) (by
        rw [flt_s, if_neg q, rg9_s, show vup g 77 l (g 77 i) 77 l = g 77 i from vup_eq, ei, ← hq]
        congr 1
        exact rg9_eq l (fun k hk => vup_ne (Or.inr (by omega)))) (fun j hj => (vup_ne (Or.inr (by omega))).trans (hs j (by omega))) (fun a b h => (vup_ne (Or.inl h)).trans (hg a b h))
      exact ⟨g', (rl1l_76 (F := F + 3) (by omega) (by omega)).trans ((rl2_76 (F := F + 2) hi3).trans ((vne (by rw [ei]; exact hxi) he (by rw [ei]; exact q)).trans ((rl3_76 (F := F + 1) hi3 hl3).trans ((rl4_76 (F := F) hi3).trans k1)))), k2⟩
theorem v_rel_76 {D e : Nat} {f : Vw} (h3 : f 76 6 ≤ 3) (he : e < 4294967296) (hx : ∀ i, i < 3 → f 77 i < 4294967296) : ∃ g, vM MT0 (D + 1) 67 [vR 76, vI e] f = some ((1, 0), vW 3, g) ∧ RlR 76 e f g := by
  obtain ⟨F, hF, go⟩ := vM_at (D := D) (y := 67) (as := [vR 76, vI e]) (f := f) rfl rfl rfl rfl
  obtain ⟨g', k1, k2⟩ := rlL_76 (D := D) h3 he hx (f 76 6) 0 0 (F + 59) f (by omega) (by omega) (by omega) rfl (fun _ _ => rfl) (fun _ _ _ => rfl)
  refine ⟨g', go _ ?_, k2⟩
  refine (vF_g rfl rfl).trans ?_
  exact k1
theorem v_emp_46_5 {D e : Nat} {f : Vw} (he : e < 12) (h3 : f 76 6 ≤ 3) : ∃ g, vM MT0 (D + 2) 85 [vR 46, vI 5, vI e] f = some ((1, 0), vW 3, emE 46 5 e g) ∧ HrR 76 e f g := by
  obtain ⟨g, e1, hg⟩ := v_hire_76 (D := D) (e := e) h3
  refine ⟨g, vM_go rfl rfl rfl rfl fun F hF => ?_, hg⟩
  refine (vF_g rfl rfl).trans ?_
  refine (vbnd_1 e1).trans ?_
  clear e1
  rcases (show e = 0 ∨ e = 1 ∨ e = 2 ∨ e = 3 ∨ e = 4 ∨ e = 5 ∨ e = 6 ∨ e = 7 ∨ e = 8 ∨ e = 9 ∨ e = 10 ∨ e = 11 by omega) with rfl | rfl | rfl | rfl | rfl | rfl | rfl | rfl | rfl | rfl | rfl | rfl <;> exact rfl
theorem ec2_46_5 {D F e : Nat} {f g : Vw} (he : e < 12) (h : vM MT0 D 67 [vR 76, vI e] f = some ((1, 0), vW 3, g)) : vFn (vM MT0 D) nb_X9_endContract (F + 1) 2 0 [vR 46, vI e, vI 5] [] f = some ((1, 0), vW 3, ecE 46 e g) := by
  refine (vF_g rfl rfl).trans ?_
  refine (vbnd_1 h).trans ?_
  clear h
  rcases (show e = 0 ∨ e = 1 ∨ e = 2 ∨ e = 3 ∨ e = 4 ∨ e = 5 ∨ e = 6 ∨ e = 7 ∨ e = 8 ∨ e = 9 ∨ e = 10 ∨ e = 11 by omega) with rfl | rfl | rfl | rfl | rfl | rfl | rfl | rfl | rfl | rfl | rfl | rfl <;> exact rfl
theorem v_hire_79 {D e : Nat} {f : Vw} (h3 : f 79 6 ≤ 3) : ∃ g, vM MT0 (D + 1) 66 [vR 79, vI e] f = some ((1, 0), vW 3, g) ∧ HrR 79 e f g := by
  by_cases q : f 79 6 < 3
  · refine ⟨hrG 79 e f, vM_go rfl rfl rfl rfl fun F hF => ?_, hrG_R q⟩
    refine (vF_g rfl rfl).trans ?_
    refine (vlt (x := f 79 6) (y := 3) (by decide) q).trans ?_
    refine (vF_g rfl rfl).trans ?_
    refine Eq.trans (b := gd (Nat.ble (f 79 6 + 1) 3) (vFn (vM MT0 D) nb_X8_hire (F + 58) 2 0 [vR 79, vI e] [] (vup (vup f 80 (f 79 6) e) 79 6 ((vup f 80 (f 79 6) e 79 6 + 1) % 4294967296)))) rfl ?_
    have e6 : vup f 80 (f 79 6) e 79 6 = f 79 6 := vup_ne (Or.inl (by decide))
    rw [Nat.ble_eq_true_of_le (show f 79 6 + 1 ≤ 3 by omega), e6, Nat.mod_eq_of_lt (show f 79 6 + 1 < 4294967296 by omega)]
    refine (vF_g rfl rfl).trans ?_
    exact rfl
  · refine ⟨f, vM_go rfl rfl rfl rfl fun F hF => ?_, by rw [if_neg q], h3, fun _ _ _ _ => rfl⟩
    refine (vF_g rfl rfl).trans ?_
    refine (vge2 (x := f 79 6) (y := 3) (by omega) (by omega)).trans ?_
    refine (vF_g rfl rfl).trans ?_
    exact rfl
theorem rl2_79 {D F i l e : Nat} {g : Vw} (hi : i < 3) : vFn (vM MT0 D) nb_X8_release (F + 1) 2 0 [vR 79, vI e, vI l, vI i] [] g = vc3 (bv (g 80 i)) (bv e) (vFn (vM MT0 D) nb_X8_release F 3 0 [vR 79, vI e, vI l, vI i] [] g) (vFn (vM MT0 D) nb_X8_release F 4 0 [vR 79, vI e, vI l, vI i] [] g) (vFn (vM MT0 D) nb_X8_release F 3 0 [vR 79, vI e, vI l, vI i] [] g) := by
  rcases (show i = 0 ∨ i = 1 ∨ i = 2 by omega) with rfl | rfl | rfl <;> exact (vF_g rfl rfl).trans rfl
theorem rl3_79 {D F i l e : Nat} {g : Vw} (hi : i < 3) (hl : l < 3) : vFn (vM MT0 D) nb_X8_release (F + 1) 3 0 [vR 79, vI e, vI l, vI i] [] g = vFn (vM MT0 D) nb_X8_release F 4 0 [vR 79, vI e, vI (l + 1), vI i] [] (vup g 80 l (g 80 i)) := by
  rcases (show i = 0 ∨ i = 1 ∨ i = 2 by omega) with rfl | rfl | rfl <;> rcases (show l = 0 ∨ l = 1 ∨ l = 2 by omega) with rfl | rfl | rfl <;> exact (vF_g rfl rfl).trans rfl
theorem rl4_79 {D F i l e : Nat} {g : Vw} (hi : i < 3) : vFn (vM MT0 D) nb_X8_release (F + 1) 4 0 [vR 79, vI e, vI l, vI i] [] g = vFn (vM MT0 D) nb_X8_release F 1 0 [vR 79, vI e, vI l, vI (i + 1)] [] g := by
  rcases (show i = 0 ∨ i = 1 ∨ i = 2 by omega) with rfl | rfl | rfl <;> exact (vF_g rfl rfl).trans rfl
theorem rl1l_79 {D F i l e : Nat} {g : Vw} (h : i < g 79 6) (h3 : g 79 6 ≤ 3) : vFn (vM MT0 D) nb_X8_release (F + 1) 1 0 [vR 79, vI e, vI l, vI i] [] g = vFn (vM MT0 D) nb_X8_release F 2 0 [vR 79, vI e, vI l, vI i] [] g := by
  refine (vF_g rfl rfl).trans ?_
  refine (vlt (x := i) (y := g 79 6) (by omega) h).trans ?_
  exact rfl
theorem rl1g_79 {D F i l e : Nat} {g : Vw} (h : g 79 6 ≤ i) (h3 : i ≤ 3) : vFn (vM MT0 D) nb_X8_release (F + 2) 1 0 [vR 79, vI e, vI l, vI i] [] g = some ((1, 0), vW 3, vup g 79 6 l) := by
  refine (vF_g rfl rfl).trans ?_
  refine (vge2 (x := i) (y := g 79 6) (by omega) h).trans ?_
  refine (vF_g rfl rfl).trans ?_
  exact rfl
theorem rlL_79 {D e : Nat} {f : Vw} (h3 : f 79 6 ≤ 3) (he : e < 4294967296) (hx : ∀ i, i < 3 → f 80 i < 4294967296) : ∀ (m i l F : Nat) (g : Vw), i + m = f 79 6 → l ≤ i → 4 * m + 2 ≤ F → rg9 (g 80) l = (rg9 (f 80) i).filter (fun x => decide (x ≠ e)) → (∀ j, i ≤ j → g 80 j = f 80 j) → (∀ a b, a ≠ 80 → g a b = f a b) → ∃ g', vFn (vM MT0 D) nb_X8_release F 1 0 [vR 79, vI e, vI l, vI i] [] g = some ((1, 0), vW 3, g') ∧ RlR 79 e f g' := by
  intro m
  induction m with
  | zero =>
    intro i l F g hi hl hF hq hs hg
    obtain ⟨F, rfl⟩ : ∃ F', F = F' + 2 := ⟨F - 2, by omega⟩
    have e6 := hg 79 6 (by decide)
    have hi : i = f 79 6 := by omega
    subst hi
    refine ⟨_, rl1g_79 (by omega) (by omega), ?_, ?_, fun a b h1 h2 => (vup_ne (by omega)).trans (hg a b h1)⟩
    · show rg9 (vup g 79 6 l 80) (vup g 79 6 l 79 6) = _
      rw [show vup g 79 6 l 79 6 = l from vup_eq, rg9_eq l (g := vup g 79 6 l 80) (h := g 80) (fun i _ => vup_ne (Or.inl (by decide)))]
      exact hq
    · rw [show vup g 79 6 l 79 6 = l from vup_eq]
      omega
  | succ m ih =>
    intro i l F g hi hl hF hq hs hg
    obtain ⟨F, rfl⟩ : ∃ F', F = F' + 4 := ⟨F - 4, by omega⟩
    have e6 := hg 79 6 (by decide)
    have ei := hs i (Nat.le_refl _)
    have hi3 : i < 3 := by omega
    have hl3 : l < 3 := by omega
    have hxi := hx i hi3
    by_cases q : f 80 i = e
    · obtain ⟨g', k1, k2⟩ := ih (i + 1) l (F + 1) g (by omega) (by omega) (by omega) (by rw [flt_s, if_pos q, List.append_nil]; exact hq) (fun j hj => hs j (by omega)) hg
      exact ⟨g', (rl1l_79 (F := F + 3) (by omega) (by omega)).trans ((rl2_79 (F := F + 2) hi3).trans ((veq (by rw [ei]; exact q)).trans ((rl4_79 (F := F + 1) hi3).trans k1))), k2⟩
    · obtain ⟨g', k1, k2⟩ := ih (i + 1) (l + 1) F (vup g 80 l (g 80 i)) (by omega) (by omega) (by omega) (by
        rw [flt_s, if_neg q, rg9_s, show vup g 80 l (g 80 i) 80 l = g 80 i from vup_eq, ei, ← hq]
        congr 1
        exact rg9_eq l (fun k hk => vup_ne (Or.inr (by omega)))) (fun j hj => (vup_ne (Or.inr (by omega))).trans (hs j (by omega))) (fun a b h => (vup_ne (Or.inl h)).trans (hg a b h))
      exact ⟨g', (rl1l_79 (F := F + 3) (by omega) (by omega)).trans ((rl2_79 (F := F + 2) hi3).trans ((vne (by rw [ei]; exact hxi) he (by rw [ei]; exact q)).trans ((rl3_79 (F := F + 1) hi3 hl3).trans ((rl4_79 (F := F) hi3).trans k1)))), k2⟩
theorem v_rel_79 {D e : Nat} {f : Vw} (h3 : f 79 6 ≤ 3) (he : e < 4294967296) (hx : ∀ i, i < 3 → f 80 i < 4294967296) : ∃ g, vM MT0 (D + 1) 67 [vR 79, vI e] f = some ((1, 0), vW 3, g) ∧ RlR 79 e f g := by
  obtain ⟨F, hF, go⟩ := vM_at (D := D) (y := 67) (as := [vR 79, vI e]) (f := f) rfl rfl rfl rfl
  obtain ⟨g', k1, k2⟩ := rlL_79 (D := D) h3 he hx (f 79 6) 0 0 (F + 59) f (by omega) (by omega) (by omega) rfl (fun _ _ => rfl) (fun _ _ _ => rfl)
  refine ⟨g', go _ ?_, k2⟩
  refine (vF_g rfl rfl).trans ?_
  exact k1
theorem v_emp_46_6 {D e : Nat} {f : Vw} (he : e < 12) (h3 : f 79 6 ≤ 3) : ∃ g, vM MT0 (D + 2) 85 [vR 46, vI 6, vI e] f = some ((1, 0), vW 3, emE 46 6 e g) ∧ HrR 79 e f g := by
  obtain ⟨g, e1, hg⟩ := v_hire_79 (D := D) (e := e) h3
  refine ⟨g, vM_go rfl rfl rfl rfl fun F hF => ?_, hg⟩
  refine (vF_g rfl rfl).trans ?_
  refine (vbnd_1 e1).trans ?_
  clear e1
  rcases (show e = 0 ∨ e = 1 ∨ e = 2 ∨ e = 3 ∨ e = 4 ∨ e = 5 ∨ e = 6 ∨ e = 7 ∨ e = 8 ∨ e = 9 ∨ e = 10 ∨ e = 11 by omega) with rfl | rfl | rfl | rfl | rfl | rfl | rfl | rfl | rfl | rfl | rfl | rfl <;> exact rfl
theorem ec2_46_6 {D F e : Nat} {f g : Vw} (he : e < 12) (h : vM MT0 D 67 [vR 79, vI e] f = some ((1, 0), vW 3, g)) : vFn (vM MT0 D) nb_X9_endContract (F + 1) 2 0 [vR 46, vI e, vI 6] [] f = some ((1, 0), vW 3, ecE 46 e g) := by
  refine (vF_g rfl rfl).trans ?_
  refine (vbnd_1 h).trans ?_
  clear h
  rcases (show e = 0 ∨ e = 1 ∨ e = 2 ∨ e = 3 ∨ e = 4 ∨ e = 5 ∨ e = 6 ∨ e = 7 ∨ e = 8 ∨ e = 9 ∨ e = 10 ∨ e = 11 by omega) with rfl | rfl | rfl | rfl | rfl | rfl | rfl | rfl | rfl | rfl | rfl | rfl <;> exact rfl
theorem v_hire_82 {D e : Nat} {f : Vw} (h3 : f 82 6 ≤ 3) : ∃ g, vM MT0 (D + 1) 66 [vR 82, vI e] f = some ((1, 0), vW 3, g) ∧ HrR 82 e f g := by
  by_cases q : f 82 6 < 3
  · refine ⟨hrG 82 e f, vM_go rfl rfl rfl rfl fun F hF => ?_, hrG_R q⟩
    refine (vF_g rfl rfl).trans ?_
    refine (vlt (x := f 82 6) (y := 3) (by decide) q).trans ?_
    refine (vF_g rfl rfl).trans ?_
    refine Eq.trans (b := gd (Nat.ble (f 82 6 + 1) 3) (vFn (vM MT0 D) nb_X8_hire (F + 58) 2 0 [vR 82, vI e] [] (vup (vup f 83 (f 82 6) e) 82 6 ((vup f 83 (f 82 6) e 82 6 + 1) % 4294967296)))) rfl ?_
    have e6 : vup f 83 (f 82 6) e 82 6 = f 82 6 := vup_ne (Or.inl (by decide))
    rw [Nat.ble_eq_true_of_le (show f 82 6 + 1 ≤ 3 by omega), e6, Nat.mod_eq_of_lt (show f 82 6 + 1 < 4294967296 by omega)]
    refine (vF_g rfl rfl).trans ?_
    exact rfl
  · refine ⟨f, vM_go rfl rfl rfl rfl fun F hF => ?_, by rw [if_neg q], h3, fun _ _ _ _ => rfl⟩
    refine (vF_g rfl rfl).trans ?_
    refine (vge2 (x := f 82 6) (y := 3) (by omega) (by omega)).trans ?_
    refine (vF_g rfl rfl).trans ?_
    exact rfl
theorem rl2_82 {D F i l e : Nat} {g : Vw} (hi : i < 3) : vFn (vM MT0 D) nb_X8_release (F + 1) 2 0 [vR 82, vI e, vI l, vI i] [] g = vc3 (bv (g 83 i)) (bv e) (vFn (vM MT0 D) nb_X8_release F 3 0 [vR 82, vI e, vI l, vI i] [] g) (vFn (vM MT0 D) nb_X8_release F 4 0 [vR 82, vI e, vI l, vI i] [] g) (vFn (vM MT0 D) nb_X8_release F 3 0 [vR 82, vI e, vI l, vI i] [] g) := by
  rcases (show i = 0 ∨ i = 1 ∨ i = 2 by omega) with rfl | rfl | rfl <;> exact (vF_g rfl rfl).trans rfl
theorem rl3_82 {D F i l e : Nat} {g : Vw} (hi : i < 3) (hl : l < 3) : vFn (vM MT0 D) nb_X8_release (F + 1) 3 0 [vR 82, vI e, vI l, vI i] [] g = vFn (vM MT0 D) nb_X8_release F 4 0 [vR 82, vI e, vI (l + 1), vI i] [] (vup g 83 l (g 83 i)) := by
  rcases (show i = 0 ∨ i = 1 ∨ i = 2 by omega) with rfl | rfl | rfl <;> rcases (show l = 0 ∨ l = 1 ∨ l = 2 by omega) with rfl | rfl | rfl <;> exact (vF_g rfl rfl).trans rfl
theorem rl4_82 {D F i l e : Nat} {g : Vw} (hi : i < 3) : vFn (vM MT0 D) nb_X8_release (F + 1) 4 0 [vR 82, vI e, vI l, vI i] [] g = vFn (vM MT0 D) nb_X8_release F 1 0 [vR 82, vI e, vI l, vI (i + 1)] [] g := by
  rcases (show i = 0 ∨ i = 1 ∨ i = 2 by omega) with rfl | rfl | rfl <;> exact (vF_g rfl rfl).trans rfl
theorem rl1l_82 {D F i l e : Nat} {g : Vw} (h : i < g 82 6) (h3 : g 82 6 ≤ 3) : vFn (vM MT0 D) nb_X8_release (F + 1) 1 0 [vR 82, vI e, vI l, vI i] [] g = vFn (vM MT0 D) nb_X8_release F 2 0 [vR 82, vI e, vI l, vI i] [] g := by
  refine (vF_g rfl rfl).trans ?_
  refine (vlt (x := i) (y := g 82 6) (by omega) h).trans ?_
  exact rfl
theorem rl1g_82 {D F i l e : Nat} {g : Vw} (h : g 82 6 ≤ i) (h3 : i ≤ 3) : vFn (vM MT0 D) nb_X8_release (F + 2) 1 0 [vR 82, vI e, vI l, vI i] [] g = some ((1, 0), vW 3, vup g 82 6 l) := by
  refine (vF_g rfl rfl).trans ?_
  refine (vge2 (x := i) (y := g 82 6) (by omega) h).trans ?_
  refine (vF_g rfl rfl).trans ?_
  exact rfl
theorem rlL_82 {D e : Nat} {f : Vw} (h3 : f 82 6 ≤ 3) (he : e < 4294967296) (hx : ∀ i, i < 3 → f 83 i < 4294967296) : ∀ (m i l F : Nat) (g : Vw), i + m = f 82 6 → l ≤ i → 4 * m + 2 ≤ F → rg9 (g 83) l = (rg9 (f 83) i).filter (fun x => decide (x ≠ e)) → (∀ j, i ≤ j → g 83 j = f 83 j) → (∀ a b, a ≠ 83 → g a b = f a b) → ∃ g', vFn (vM MT0 D) nb_X8_release F 1 0 [vR 82, vI e, vI l, vI i] [] g = some ((1, 0), vW 3, g') ∧ RlR 82 e f g' := by
  intro m
  induction m with
  | zero =>
    intro i l F g hi hl hF hq hs hg
    obtain ⟨F, rfl⟩ : ∃ F', F = F' + 2 := ⟨F - 2, by omega⟩
    have e6 := hg 82 6 (by decide)
    have hi : i = f 82 6 := by omega
    subst hi
    refine ⟨_, rl1g_82 (by omega) (by omega), ?_, ?_, fun a b h1 h2 => (vup_ne (by omega)).trans (hg a b h1)⟩
    · show rg9 (vup g 82 6 l 83) (vup g 82 6 l 82 6) = _
      rw [show vup g 82 6 l 82 6 = l from vup_eq, rg9_eq l (g := vup g 82 6 l 83) (h := g 83) (fun i _ => vup_ne (Or.inl (by decide)))]
      exact hq
    · rw [show vup g 82 6 l 82 6 = l from vup_eq]
      omega
  | succ m ih =>
    intro i l F g hi hl hF hq hs hg
    obtain ⟨F, rfl⟩ : ∃ F', F = F' + 4 := ⟨F - 4, by omega⟩
    have e6 := hg 82 6 (by decide)
    have ei := hs i (Nat.le_refl _)
    have hi3 : i < 3 := by omega
    have hl3 : l < 3 := by omega
    have hxi := hx i hi3
    by_cases q : f 83 i = e
    · obtain ⟨g', k1, k2⟩ := ih (i + 1) l (F + 1) g (by omega) (by omega) (by omega) (by rw [flt_s, if_pos q, List.append_nil]; exact hq) (fun j hj => hs j (by omega)) hg
      exact ⟨g', (rl1l_82 (F := F + 3) (by omega) (by omega)).trans ((rl2_82 (F := F + 2) hi3).trans ((veq (by rw [ei]; exact q)).trans ((rl4_82 (F := F + 1) hi3).trans k1))), k2⟩
    · obtain ⟨g', k1, k2⟩ := ih (i + 1) (l + 1) F (vup g 83 l (g 83 i)) (by omega) (by omega) (by omega) (by
        rw [flt_s, if_neg q, rg9_s, show vup g 83 l (g 83 i) 83 l = g 83 i from vup_eq, ei, ← hq]
        congr 1
        exact rg9_eq l (fun k hk => vup_ne (Or.inr (by omega)))) (fun j hj => (vup_ne (Or.inr (by omega))).trans (hs j (by omega))) (fun a b h => (vup_ne (Or.inl h)).trans (hg a b h))
      exact ⟨g', (rl1l_82 (F := F + 3) (by omega) (by omega)).trans ((rl2_82 (F := F + 2) hi3).trans ((vne (by rw [ei]; exact hxi) he (by rw [ei]; exact q)).trans ((rl3_82 (F := F + 1) hi3 hl3).trans ((rl4_82 (F := F) hi3).trans k1)))), k2⟩
theorem v_rel_82 {D e : Nat} {f : Vw} (h3 : f 82 6 ≤ 3) (he : e < 4294967296) (hx : ∀ i, i < 3 → f 83 i < 4294967296) : ∃ g, vM MT0 (D + 1) 67 [vR 82, vI e] f = some ((1, 0), vW 3, g) ∧ RlR 82 e f g := by
  obtain ⟨F, hF, go⟩ := vM_at (D := D) (y := 67) (as := [vR 82, vI e]) (f := f) rfl rfl rfl rfl
  obtain ⟨g', k1, k2⟩ := rlL_82 (D := D) h3 he hx (f 82 6) 0 0 (F + 59) f (by omega) (by omega) (by omega) rfl (fun _ _ => rfl) (fun _ _ _ => rfl)
  refine ⟨g', go _ ?_, k2⟩
  refine (vF_g rfl rfl).trans ?_
  exact k1
theorem v_emp_46_7 {D e : Nat} {f : Vw} (he : e < 12) (h3 : f 82 6 ≤ 3) : ∃ g, vM MT0 (D + 2) 85 [vR 46, vI 7, vI e] f = some ((1, 0), vW 3, emE 46 7 e g) ∧ HrR 82 e f g := by
  obtain ⟨g, e1, hg⟩ := v_hire_82 (D := D) (e := e) h3
  refine ⟨g, vM_go rfl rfl rfl rfl fun F hF => ?_, hg⟩
  refine (vF_g rfl rfl).trans ?_
  refine (vbnd_1 e1).trans ?_
  clear e1
  rcases (show e = 0 ∨ e = 1 ∨ e = 2 ∨ e = 3 ∨ e = 4 ∨ e = 5 ∨ e = 6 ∨ e = 7 ∨ e = 8 ∨ e = 9 ∨ e = 10 ∨ e = 11 by omega) with rfl | rfl | rfl | rfl | rfl | rfl | rfl | rfl | rfl | rfl | rfl | rfl <;> exact rfl
theorem ec2_46_7 {D F e : Nat} {f g : Vw} (he : e < 12) (h : vM MT0 D 67 [vR 82, vI e] f = some ((1, 0), vW 3, g)) : vFn (vM MT0 D) nb_X9_endContract (F + 1) 2 0 [vR 46, vI e, vI 7] [] f = some ((1, 0), vW 3, ecE 46 e g) := by
  refine (vF_g rfl rfl).trans ?_
  refine (vbnd_1 h).trans ?_
  clear h
  rcases (show e = 0 ∨ e = 1 ∨ e = 2 ∨ e = 3 ∨ e = 4 ∨ e = 5 ∨ e = 6 ∨ e = 7 ∨ e = 8 ∨ e = 9 ∨ e = 10 ∨ e = 11 by omega) with rfl | rfl | rfl | rfl | rfl | rfl | rfl | rfl | rfl | rfl | rfl | rfl <;> exact rfl
theorem v_emp_46 {D v e : Nat} {f : Vw} (hv : v < 8) (he : e < 12) (hb : StB f 46) : ∃ g, vM MT0 (D + 2) 85 [vR 46, vI v, vI e] f = some ((1, 0), vW 3, emE 46 v e g) ∧ HrR (46 + 15 + 3 * v) e f g := by
  have h3 := hb v hv
  rcases (show v = 0 ∨ v = 1 ∨ v = 2 ∨ v = 3 ∨ v = 4 ∨ v = 5 ∨ v = 6 ∨ v = 7 by omega) with q | q | q | q | q | q | q | q
  · subst q; exact v_emp_46_0 he h3
  · subst q; exact v_emp_46_1 he h3
  · subst q; exact v_emp_46_2 he h3
  · subst q; exact v_emp_46_3 he h3
  · subst q; exact v_emp_46_4 he h3
  · subst q; exact v_emp_46_5 he h3
  · subst q; exact v_emp_46_6 he h3
  · subst q; exact v_emp_46_7 he h3
theorem ec0_46 {D F e : Nat} {f : Vw} (he : e < 12) : vFn (vM MT0 D) nb_X9_endContract (F + 1) 0 0 (iniL 3 [vR 46, vI e]) [] f = vc3 (bv (f (46 + 3 + e) 7)) (bv 4294967295) (vFn (vM MT0 D) nb_X9_endContract F 2 0 [vR 46, vI e, vI (f (46 + 3 + e) 7)] [] f) (vFn (vM MT0 D) nb_X9_endContract F 1 0 [vR 46, vI e, vI (f (46 + 3 + e) 7)] [] f) (vFn (vM MT0 D) nb_X9_endContract F 2 0 [vR 46, vI e, vI (f (46 + 3 + e) 7)] [] f) := by
  rcases (show e = 0 ∨ e = 1 ∨ e = 2 ∨ e = 3 ∨ e = 4 ∨ e = 5 ∨ e = 6 ∨ e = 7 ∨ e = 8 ∨ e = 9 ∨ e = 10 ∨ e = 11 by omega) with rfl | rfl | rfl | rfl | rfl | rfl | rfl | rfl | rfl | rfl | rfl | rfl <;> exact (vF_g rfl rfl).trans rfl
theorem v_endC_46 {D e : Nat} {f : Vw} (he : e < 12) (hw : f (46 + 3 + e) 7 = 4294967295 ∨ f (46 + 3 + e) 7 < 8) (hb : StB f 46) (hx : ∀ v, v < 8 → ∀ i, i < 3 → f (46 + 16 + 3 * v) i < 4294967296) : ∃ g, vM MT0 (D + 2) 86 [vR 46, vI e] f = some ((1, 0), vW 3, g) ∧ (f (46 + 3 + e) 7 = 4294967295 → g = f) ∧ (f (46 + 3 + e) 7 < 8 → ∃ g1, RlR (46 + 15 + 3 * f (46 + 3 + e) 7) e f g1 ∧ g = ecE 46 e g1) := by
  rcases hw with hw | hw
  · refine ⟨f, vM_go rfl rfl rfl rfl fun F hF => (ec0_46 he).trans ((veq hw).trans ((vF_g rfl rfl).trans rfl)), fun _ => rfl, fun q => absurd q (by omega)⟩
  · have k : ∃ g1, vM MT0 (D + 1) 67 [vR (46 + 15 + 3 * f (46 + 3 + e) 7), vI e] f = some ((1, 0), vW 3, g1) ∧ RlR (46 + 15 + 3 * f (46 + 3 + e) 7) e f g1 := by
      have h3 := hb _ hw
      have hx := hx _ hw
      rcases (show f (46 + 3 + e) 7 = 0 ∨ f (46 + 3 + e) 7 = 1 ∨ f (46 + 3 + e) 7 = 2 ∨ f (46 + 3 + e) 7 = 3 ∨ f (46 + 3 + e) 7 = 4 ∨ f (46 + 3 + e) 7 = 5 ∨ f (46 + 3 + e) 7 = 6 ∨ f (46 + 3 + e) 7 = 7 by omega) with q | q | q | q | q | q | q | q
      · rw [q] at h3 hx ⊢; exact v_rel_61 h3 (by omega) hx
      · rw [q] at h3 hx ⊢; exact v_rel_64 h3 (by omega) hx
      · rw [q] at h3 hx ⊢; exact v_rel_67 h3 (by omega) hx
      · rw [q] at h3 hx ⊢; exact v_rel_70 h3 (by omega) hx
      · rw [q] at h3 hx ⊢; exact v_rel_73 h3 (by omega) hx
      · rw [q] at h3 hx ⊢; exact v_rel_76 h3 (by omega) hx
      · rw [q] at h3 hx ⊢; exact v_rel_79 h3 (by omega) hx
      · rw [q] at h3 hx ⊢; exact v_rel_82 h3 (by omega) hx
    obtain ⟨g1, k1, k2⟩ := k
    have k3 : ∀ F, vFn (vM MT0 (D + 1)) nb_X9_endContract (F + 1) 2 0 [vR 46, vI e, vI (f (46 + 3 + e) 7)] [] f = some ((1, 0), vW 3, ecE 46 e g1) := fun F => by
      clear k2
      rcases (show f (46 + 3 + e) 7 = 0 ∨ f (46 + 3 + e) 7 = 1 ∨ f (46 + 3 + e) 7 = 2 ∨ f (46 + 3 + e) 7 = 3 ∨ f (46 + 3 + e) 7 = 4 ∨ f (46 + 3 + e) 7 = 5 ∨ f (46 + 3 + e) 7 = 6 ∨ f (46 + 3 + e) 7 = 7 by omega) with q | q | q | q | q | q | q | q
      · rw [q] at k1 ⊢; exact ec2_46_0 he k1
      · rw [q] at k1 ⊢; exact ec2_46_1 he k1
      · rw [q] at k1 ⊢; exact ec2_46_2 he k1
      · rw [q] at k1 ⊢; exact ec2_46_3 he k1
      · rw [q] at k1 ⊢; exact ec2_46_4 he k1
      · rw [q] at k1 ⊢; exact ec2_46_5 he k1
      · rw [q] at k1 ⊢; exact ec2_46_6 he k1
      · rw [q] at k1 ⊢; exact ec2_46_7 he k1
    exact ⟨ecE 46 e g1, vM_go rfl rfl rfl rfl fun F hF => (ec0_46 he).trans ((vne (by omega) (by decide) (by omega)).trans (k3 _)), fun q => absurd q (by omega), fun _ => ⟨g1, k2, rfl⟩⟩
theorem endC_R_46 {e : Nat} {f g : Vw} (he : e < 12) (hw : f (46 + 3 + e) 7 = 4294967295 ∨ f (46 + 3 + e) 7 < 8) (h3 : f 46 3 ≤ 8) (hb : StB f 46) (h1 : f (46 + 3 + e) 7 = 4294967295 → g = f) (h2 : f (46 + 3 + e) 7 < 8 → ∃ g1, RlR (46 + 15 + 3 * f (46 + 3 + e) 7) e f g1 ∧ g = ecE 46 e g1) : KpS 46 f g := by
  rcases hw with hw | hw
  · rw [h1 hw]; exact kpS_rf hb
  · obtain ⟨g1, k1, k2⟩ := h2 hw
    rw [k2]; exact ec_R hw he h3 hb k1
theorem sg1l_46 {D F v : Nat} {x2 x4 : AV} {g : Vw} (h : v < g 46 3) (h8 : g 46 3 ≤ 8) : vFn (vM MT0 D) nb_X5_sign (F + 2) 1 0 [vR 440, vR 46, x2, vI v, x4] [] g = vFn (vM MT0 D) nb_X5_sign F 3 0 [vR 440, vR 46, x2, vI v, vI 0] [] g := by
  refine (vF_g rfl rfl).trans ?_
  refine (vlt (x := v) (y := g 46 3) (by omega) h).trans ?_
  refine (vF_g rfl rfl).trans ?_
  exact rfl
theorem sg1g_46 {D F v c : Nat} {x4 : AV} {g : Vw} (h : g 46 3 ≤ v) (h8 : v ≤ 8) : vFn (vM MT0 D) nb_X5_sign (F + 2) 1 0 [vR 440, vR 46, vI c, vI v, x4] [] g = some ((0, 0), vI c, g) := by
  refine (vF_g rfl rfl).trans ?_
  refine (vge2 (x := v) (y := g 46 3) (by omega) h).trans ?_
  refine (vF_g rfl rfl).trans ?_
  exact rfl
theorem sg3l_46 {D F v e : Nat} {x2 : AV} {g : Vw} (h : e < g 46 2) (h8 : g 46 2 ≤ 12) : vFn (vM MT0 D) nb_X5_sign (F + 2) 3 0 [vR 440, vR 46, x2, vI v, vI e] [] g = vc3 (bv (g 442 e)) (bv v) (vFn (vM MT0 D) nb_X5_sign F 6 0 [vR 440, vR 46, x2, vI v, vI e] [] g) (vFn (vM MT0 D) nb_X5_sign F 5 0 [vR 440, vR 46, x2, vI v, vI e] [] g) (vFn (vM MT0 D) nb_X5_sign F 6 0 [vR 440, vR 46, x2, vI v, vI e] [] g) := by
  refine (vF_g rfl rfl).trans ?_
  refine (vlt (x := e) (y := g 46 2) (by omega) h).trans ?_
  refine (vF_g rfl rfl).trans ?_
  have he : e < 12 := by omega
  clear h
  rcases (show e = 0 ∨ e = 1 ∨ e = 2 ∨ e = 3 ∨ e = 4 ∨ e = 5 ∨ e = 6 ∨ e = 7 ∨ e = 8 ∨ e = 9 ∨ e = 10 ∨ e = 11 by omega) with rfl | rfl | rfl | rfl | rfl | rfl | rfl | rfl | rfl | rfl | rfl | rfl <;> exact rfl
theorem sg3g_46 {D F v e c : Nat} {g : Vw} (h : g 46 2 ≤ e) (h8 : e ≤ 12) (hv : v < 8) : vFn (vM MT0 D) nb_X5_sign (F + 2) 3 0 [vR 440, vR 46, vI c, vI v, vI e] [] g = vFn (vM MT0 D) nb_X5_sign F 1 0 [vR 440, vR 46, vI c, vI (v + 1), vI e] [] g := by
  refine (vF_g rfl rfl).trans ?_
  refine (vge2 (x := e) (y := g 46 2) (by omega) h).trans ?_
  refine (vF_g rfl rfl).trans ?_
  rcases (show v = 0 ∨ v = 1 ∨ v = 2 ∨ v = 3 ∨ v = 4 ∨ v = 5 ∨ v = 6 ∨ v = 7 by omega) with rfl | rfl | rfl | rfl | rfl | rfl | rfl | rfl <;> exact rfl
theorem sg6_46 {D F v e : Nat} {x2 : AV} {g : Vw} (he : e < 12) : vFn (vM MT0 D) nb_X5_sign (F + 1) 6 0 [vR 440, vR 46, x2, vI v, vI e] [] g = vFn (vM MT0 D) nb_X5_sign F 3 0 [vR 440, vR 46, x2, vI v, vI (e + 1)] [] g := by
  refine (vF_g rfl rfl).trans ?_
  rcases (show e = 0 ∨ e = 1 ∨ e = 2 ∨ e = 3 ∨ e = 4 ∨ e = 5 ∨ e = 6 ∨ e = 7 ∨ e = 8 ∨ e = 9 ∨ e = 10 ∨ e = 11 by omega) with rfl | rfl | rfl | rfl | rfl | rfl | rfl | rfl | rfl | rfl | rfl | rfl <;> exact rfl
theorem sg5_46 {D F v e c : Nat} {f g : Vw} (h : vM MT0 D 85 [vR 46, vI v, vI e] f = some ((1, 0), vW 3, g)) : vFn (vM MT0 D) nb_X5_sign (F + 1) 5 0 [vR 440, vR 46, vI c, vI v, vI e] [] f = vFn (vM MT0 D) nb_X5_sign F 6 0 [vR 440, vR 46, vI ((c + 1) % 4294967296), vI v, vI e] [] g := by
  refine (vF_g rfl rfl).trans ?_
  refine (vbnd_1 h).trans ?_
  exact rfl
theorem sgI_46 {D : Nat} {f : Vw} (h2 : f 46 2 ≤ 12) (h3 : f 46 3 ≤ 8) (hk : ∀ i, i < 12 → f 442 i < 4294967296) : ∀ (m e v c F : Nat) (g : Vw), v < 8 → e + m = f 46 2 → 4 * m + 2 ≤ F → KpS 46 f g → ∃ (F' c' : Nat) (g' : Vw), F ≤ F' + 4 * m + 2 ∧ vFn (vM MT0 (D + 2)) nb_X5_sign F 3 0 [vR 440, vR 46, vI c, vI v, vI e] [] g = vFn (vM MT0 (D + 2)) nb_X5_sign F' 1 0 [vR 440, vR 46, vI c', vI (v + 1), vI (f 46 2)] [] g' ∧ KpS 46 f g' := by
  intro m
  induction m with
  | zero =>
    intro e v c F g hv he hF hg
    obtain ⟨F, rfl⟩ : ∃ F', F = F' + 2 := ⟨F - 2, by omega⟩
    have e2 := frS_A hg.2.2 (b := 2) (by decide) (by decide)
    have he : e = f 46 2 := by omega
    subst he
    exact ⟨F, c, g, by omega, sg3g_46 (by omega) (by omega) hv, hg⟩
  | succ m ih =>
    intro e v c F g hv he hF hg
    obtain ⟨F, rfl⟩ : ∃ F', F = F' + 4 := ⟨F - 4, by omega⟩
    have e2 := frS_A hg.2.2 (b := 2) (by decide) (by decide)
    have e3 := frS_A hg.2.2 (b := 3) (by decide) (by decide)
    have he12 : e < 12 := by omega
    have ek : g 442 e = f 442 e := hg.2.2 442 e (Or.inr (Or.inl (by decide)))
    have hke := hk e he12
    by_cases q : g 442 e = v
    · obtain ⟨g1, k1, k2⟩ := v_emp_46 (D := D) hv he12 hg.1
      obtain ⟨F', c', g', j1, j2, j3⟩ := ih (e + 1) v ((c + 1) % 4294967296) F (emE 46 v e g1) hv (by omega) (by omega) (kpS_tr hg (em_R hv (by omega) (by omega) (by omega) hg.1 k2))
      exact ⟨F', c', g', by omega, (sg3l_46 (F := F + 2) (by omega) (by omega)).trans ((veq q).trans ((sg5_46 (F := F + 1) k1).trans ((sg6_46 (F := F) he12).trans j2))), j3⟩
    · obtain ⟨F', c', g', j1, j2, j3⟩ := ih (e + 1) v c (F + 1) g hv (by omega) (by omega) hg
      exact ⟨F', c', g', by omega, (sg3l_46 (F := F + 2) (by omega) (by omega)).trans ((vne (by omega) (by omega) q).trans ((sg6_46 (F := F + 1) he12).trans j2)), j3⟩
theorem sgO_46 {D : Nat} {f : Vw} (h2 : f 46 2 ≤ 12) (h3 : f 46 3 ≤ 8) (hk : ∀ i, i < 12 → f 442 i < 4294967296) : ∀ (m v c F : Nat) (x4 : AV) (g : Vw), v + m = f 46 3 → 60 * m + 2 ≤ F → KpS 46 f g → ∃ (c' : Nat) (g' : Vw), vFn (vM MT0 (D + 2)) nb_X5_sign F 1 0 [vR 440, vR 46, vI c, vI v, x4] [] g = some ((0, 0), vI c', g') ∧ KpS 46 f g' := by
  intro m
  induction m with
  | zero =>
    intro v c F x4 g hv hF hg
    obtain ⟨F, rfl⟩ : ∃ F', F = F' + 2 := ⟨F - 2, by omega⟩
    have e3 := frS_A hg.2.2 (b := 3) (by decide) (by decide)
    exact ⟨c, g, sg1g_46 (by omega) (by omega), hg⟩
  | succ m ih =>
    intro v c F x4 g hv hF hg
    obtain ⟨F, rfl⟩ : ∃ F', F = F' + 2 := ⟨F - 2, by omega⟩
    have e3 := frS_A hg.2.2 (b := 3) (by decide) (by decide)
    obtain ⟨F1, c1, g1, j1, j2, j3⟩ := sgI_46 (D := D) h2 h3 hk (f 46 2) 0 v c F g (by omega) (by omega) (by omega) hg
    obtain ⟨c', g', k1, k2⟩ := ih (v + 1) c1 F1 (vI (f 46 2)) g1 (by omega) (by omega) j3
    exact ⟨c', g', (sg1l_46 (F := F) (by omega) (by omega)).trans (j2.trans k1), k2⟩
theorem v_sign_46 {D : Nat} {f : Vw} (h2 : f 46 2 ≤ 12) (h3 : f 46 3 ≤ 8) (hb : StB f 46) (hk : ∀ i, i < 12 → f 442 i < 4294967296) : ∃ (c : Nat) (g : Vw), vM MT0 (D + 3) 38 [vR 440, vR 46] f = some ((0, 0), vI c, g) ∧ KpS 46 f g := by
  obtain ⟨F, hF, go⟩ := vM_at (D := D + 2) (y := 38) (as := [vR 440, vR 46]) (f := f) rfl rfl rfl rfl
  obtain ⟨c, g', k1, k2⟩ := sgO_46 (D := D) h2 h3 hk (f 46 3) 0 0 (F + 59) (vW 3) f (by omega) (by omega) (kpS_rf hb)
  refine ⟨c, g', go _ ?_, k2⟩
  refine (vF_g rfl rfl).trans ?_
  exact k1
/-- what funds and lessons leave as it was -/
def FrM (f g : Vw) : Prop := ∀ a b : Nat, (a < 7 ∨ 46 ≤ a ∨ (a = 7 ∧ b ≠ 9 ∧ b ≠ 10) ∨ a = 8 ∨ a = 9 ∨ (10 ≤ a ∧ a < 22 ∧ b ≠ 2 ∧ b ≠ 5) ∨ (22 ≤ a ∧ b ≠ 4)) → g a b = f a b
noncomputable def puE (v x : Nat) (f : Vw) : Vw := vup (vup f (22 + 3 * v) 4 ((f (22 + 3 * v) 4 + x) % 4294967296)) 7 9 ((vup f (22 + 3 * v) 4 ((f (22 + 3 * v) 4 + x) % 4294967296) 7 9 + x) % 4294967296)
theorem v_putMoney {D v x : Nat} {f : Vw} (hv : v < 8) : vM MT0 (D + 1) 92 [vR 7, vI v, vI x] f = some ((1, 0), vW 3, puE v x f) := by
  refine vM_go rfl rfl rfl rfl fun F hF => ?_
  refine (vF_g rfl rfl).trans ?_
  rcases (show v = 0 ∨ v = 1 ∨ v = 2 ∨ v = 3 ∨ v = 4 ∨ v = 5 ∨ v = 6 ∨ v = 7 by omega) with rfl | rfl | rfl | rfl | rfl | rfl | rfl | rfl <;> exact rfl
theorem pu_R {v x : Nat} {f : Vw} (hv : v < f 7 3) (h3 : f 7 3 ≤ 8) (h2 : f 7 2 ≤ 12) : (Bal f 7 → Bal (puE v x f) 7) ∧ FrM f (puE v x f) := by
  have fr : ∀ a b, (a ≠ 22 + 3 * v ∨ b ≠ 4) → (a ≠ 7 ∨ b ≠ 9) → puE v x f a b = f a b := fun a b h1 h2 => (vup_ne h2).trans (vup_ne h1)
  have e4 : puE v x f (22 + 3 * v) 4 = (f (22 + 3 * v) 4 + x) % 4294967296 := (vup_ne (Or.inl (by omega))).trans vup_eq
  have e9 : puE v x f 7 9 = (f 7 9 + x) % 4294967296 := by
    have : vup f (22 + 3 * v) 4 ((f (22 + 3 * v) 4 + x) % 4294967296) 7 9 = f 7 9 := vup_ne (Or.inl (by omega))
    show vup _ 7 9 _ 7 9 = _
    rw [vup_eq, this]
  refine ⟨fun hb => mv9 (x := x) hb ?_ ?_, fun a b h => fr a b (by omega) (by omega)⟩
  · unfold blL
    rw [fr 7 7 (by omega) (by omega), fr 7 8 (by omega) (by omega), e9]
    omega
  · unfold blR
    rw [fr 7 2 (by omega) (by omega), fr 7 3 (by omega) (by omega), fr 7 10 (by omega) (by omega), smN_eq (g := fun e => f (7 + 3 + e) 5) (h := fun e => puE v x f (7 + 3 + e) 5) (f 7 2) (fun i hi => fr _ _ (by omega) (by omega))]
    have a : smN (fun v' => puE v x f (7 + 15 + 3 * v') 4) (f 7 3) + f (7 + 15 + 3 * v) 4 = smN (fun v' => f (7 + 15 + 3 * v') 4) (f 7 3) + puE v x f (7 + 15 + 3 * v) 4 := smN_up (g := fun v' => f (7 + 15 + 3 * v') 4) (h := fun v' => puE v x f (7 + 15 + 3 * v') 4) (f 7 3) hv (fun i hi hne => fr _ _ (by omega) (by omega))
    rw [show 7 + 15 + 3 * v = 22 + 3 * v by omega, e4] at a
    generalize smN (fun v' => puE v x f (7 + 15 + 3 * v') 4) (f 7 3) = s1 at *
    generalize smN (fun v' => f (7 + 15 + 3 * v') 4) (f 7 3) = s0 at *
    generalize smN (fun e => f (7 + 3 + e) 5) (f 7 2) = t0 at *
    omega
noncomputable def te1 (e p : Nat) (f : Vw) : Vw := vup f (10 + e) 5 (g_sub (f (10 + e) 5) p)
noncomputable def te2 (e p : Nat) (f : Vw) : Vw := vup (te1 e p f) 7 10 ((te1 e p f 7 10 + p) % 4294967296)
noncomputable def teE (e p : Nat) (f : Vw) : Vw := vup (te2 e p f) (10 + e) 2 ((te2 e p f (10 + e) 2 + 1) % 4294967296)
theorem v_lesson {D e : Nat} {f : Vw} (he : e < 12) : vM MT0 (D + 1) 23 [vR (10 + e)] f = some ((0, 0), vI (g_imul 10 (f (10 + e) 2)), f) := by
  refine vM_go rfl rfl rfl rfl fun F hF => ?_
  rcases (show e = 0 ∨ e = 1 ∨ e = 2 ∨ e = 3 ∨ e = 4 ∨ e = 5 ∨ e = 6 ∨ e = 7 ∨ e = 8 ∨ e = 9 ∨ e = 10 ∨ e = 11 by omega) with rfl | rfl | rfl | rfl | rfl | rfl | rfl | rfl | rfl | rfl | rfl | rfl <;> exact (vF_g rfl rfl).trans rfl
theorem v_teach {D e : Nat} {f : Vw} (he : e < 12) : vM MT0 (D + 2) 93 [vR 7, vI e] f = some ((1, 0), vW 3, teE e (g_imul 10 (f (10 + e) 2)) f) := by
  have h := v_lesson (D := D) (f := f) he
  refine vM_go rfl rfl rfl rfl fun F hF => ?_
  rcases (show e = 0 ∨ e = 1 ∨ e = 2 ∨ e = 3 ∨ e = 4 ∨ e = 5 ∨ e = 6 ∨ e = 7 ∨ e = 8 ∨ e = 9 ∨ e = 10 ∨ e = 11 by omega) with rfl | rfl | rfl | rfl | rfl | rfl | rfl | rfl | rfl | rfl | rfl | rfl <;> (refine (vF_g rfl rfl).trans ?_; refine (vbnd_0 h).trans ?_; exact rfl)
theorem te_R {e p : Nat} {f : Vw} (he : e < f 7 2) (h2 : f 7 2 ≤ 12) (h3 : f 7 3 ≤ 8) : (Bal f 7 → Bal (teE e p f) 7) ∧ FrM f (teE e p f) := by
  have fr : ∀ a b, (a ≠ 10 + e ∨ (b ≠ 5 ∧ b ≠ 2)) → (a ≠ 7 ∨ b ≠ 10) → teE e p f a b = f a b := fun a b h1 h2 => (vup_ne (by omega)).trans ((vup_ne h2).trans (vup_ne (by omega)))
  have e5 : teE e p f (10 + e) 5 = g_sub (f (10 + e) 5) p := (vup_ne (Or.inr (by decide))).trans ((vup_ne (Or.inl (by omega))).trans vup_eq)
  have e10 : teE e p f 7 10 = (f 7 10 + p) % 4294967296 := by
    have : te1 e p f 7 10 = f 7 10 := vup_ne (Or.inl (by omega))
    have q : teE e p f 7 10 = (te1 e p f 7 10 + p) % 4294967296 := (vup_ne (Or.inl (by omega))).trans vup_eq
    rw [q, this]
  refine ⟨fun hb => mv9 (x := 0) hb ?_ ?_, fun a b h => fr a b (by omega) (by omega)⟩
  · unfold blL
    rw [fr 7 7 (by omega) (by omega), fr 7 8 (by omega) (by omega), fr 7 9 (by omega) (by omega)]
    rfl
  · unfold blR
    rw [fr 7 2 (by omega) (by omega), fr 7 3 (by omega) (by omega), e10, smN_eq (g := fun v => f (7 + 15 + 3 * v) 4) (h := fun v => teE e p f (7 + 15 + 3 * v) 4) (f 7 3) (fun i hi => fr _ _ (by omega) (by omega))]
    have a : smN (fun e' => teE e p f (7 + 3 + e') 5) (f 7 2) + f (7 + 3 + e) 5 = smN (fun e' => f (7 + 3 + e') 5) (f 7 2) + teE e p f (7 + 3 + e) 5 := smN_up (g := fun e' => f (7 + 3 + e') 5) (h := fun e' => teE e p f (7 + 3 + e') 5) (f 7 2) he (fun i hi hne => fr _ _ (by omega) (by omega))
    have e5 : teE e p f (10 + e) 5 = (f (10 + e) 5 + (4294967296 - p % 4294967296)) % 4294967296 := e5
    rw [show 7 + 3 + e = 10 + e by omega, e5] at a
    generalize smN (fun e' => teE e p f (7 + 3 + e') 5) (f 7 2) = s1 at *
    generalize smN (fun e' => f (7 + 3 + e') 5) (f 7 2) = s0 at *
    generalize smN (fun v => f (7 + 15 + 3 * v) 4) (f 7 3) = t0 at *
    omega
