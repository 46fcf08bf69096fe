/-! the end of a line goes forward by one: for each place of the text -/
noncomputable def pNa (α : Nat) : List Pst := yif (Nat.blt α 900) [((0, 0), (0, 0, 255), [fM 17 α 899, fM 18 0 899, fM 19 0 900], [sBW, sBA 0 0])] ++ [((0, 0), (0, -1, -1), [fM 17 α 900, fM 18 0 900, fM 19 0 900], [sBW, sBA 0 0])]
noncomputable def ctNa (α : Nat) : Ctr := ([(1, 452, 0)], [fM 17 α 900], [], [(13, 17, 19)], pNa α)
theorem yif_in {α : Type} {b : Bool} {l : List α} {a : α} (hb : b = true) (h : a ∈ l) : a ∈ yif b l := by
  rw [hb]; exact h
theorem nextA_ok {Ev : Env9} {α : Nat} : CK Ev 8 (229, ctNa α) := by
  intro k hk vs M h1 h2 h3 hT hI
  have g := fact_at h2 (c := 452) (i := 17) (lo := (α : Int)) (hi := 900) List.mem_cons_self
  obtain ⟨r, e, r1, r2, r3, r4, r5, p, p1, p2⟩ := next_A (Ev := Ev) (a := (α : Int)) k hk vs M h1 (prFa_1 (c := 452) (i := 17) (by decide) (Int.le_trans (Int.natCast_nonneg α) g.1) g.2) (fun q hq => by cases hq) hT ⟨hI, g.1⟩
  refine ⟨r, e, r1, r2, r3, r4.1, r5, ?_⟩
  rcases List.mem_cons.mp p1 with z | z
  · subst z
    have w1 := fact_at p2.2.2.1 (c := 452) (i := 17) (lo := 0) (hi := 899) List.mem_cons_self
    have hα : Nat.blt α 900 = true := Nat.blt_eq.mpr (by have := r4.2; have := w1.2; omega)
    refine ⟨_, List.mem_append_left _ (yif_in hα List.mem_cons_self), p2.1, p2.2.1, ?_, p2.2.2.2⟩
    exact prFa_app (l := [fM 17 α 899]) (prFa_1 (c := 452) (i := 17) (by decide) r4.2 w1.2) (fun a ha => p2.2.2.1 a (List.mem_cons_of_mem _ ha))
  · obtain rfl := List.mem_singleton.mp z
    have w1 := fact_at p2.2.2.1 (c := 452) (i := 17) (lo := 0) (hi := 900) List.mem_cons_self
    refine ⟨_, List.mem_append_right _ List.mem_cons_self, p2.1, p2.2.1, ?_, p2.2.2.2⟩
    exact prFa_app (l := [fM 17 α 900]) (prFa_1 (c := 452) (i := 17) (by decide) r4.2 w1.2) (fun a ha => p2.2.2.1 a (List.mem_cons_of_mem _ ha))
noncomputable def mdSe : MDT := (1, nb_X11_semicolon, [])
noncomputable def pSc (α : Nat) : List Pst := [((1, 0), (1, 0, 0), [fM 17 ((α : Int) + 1) 900, fM 20 0 0], []), ((1, 0), (1, 0, 0), [fM 17 ((α : Int) + 1) 901, fM 20 1 4], [])]
noncomputable def ctSc (α : Nat) : Ctr := ([(1, 452, 0)], [fM 17 α 900, fM 20 0 0], [], [(13, 17, 21)], pSc α)
noncomputable def chSc (α : Nat) : Bool := xctr kd0 sh0 rt0 bd0 un0 PR0 MT0 (ctL [(229, ctNa α)]) 4 mdSe (ctSc α)
theorem chSc_0 : allN 30 (fun i => chSc (0 + i)) = true := by decide +kernel
theorem chSc_1 : allN 30 (fun i => chSc (30 + i)) = true := by decide +kernel
theorem chSc_2 : allN 30 (fun i => chSc (60 + i)) = true := by decide +kernel
theorem chSc_3 : allN 30 (fun i => chSc (90 + i)) = true := by decide +kernel
theorem chSc_4 : allN 30 (fun i => chSc (120 + i)) = true := by decide +kernel
theorem chSc_5 : allN 30 (fun i => chSc (150 + i)) = true := by decide +kernel
theorem chSc_6 : allN 30 (fun i => chSc (180 + i)) = true := by decide +kernel
theorem chSc_7 : allN 30 (fun i => chSc (210 + i)) = true := by decide +kernel
theorem chSc_8 : allN 30 (fun i => chSc (240 + i)) = true := by decide +kernel
theorem chSc_9 : allN 30 (fun i => chSc (270 + i)) = true := by decide +kernel
theorem chSc_10 : allN 30 (fun i => chSc (300 + i)) = true := by decide +kernel
theorem chSc_11 : allN 30 (fun i => chSc (330 + i)) = true := by decide +kernel
theorem chSc_12 : allN 30 (fun i => chSc (360 + i)) = true := by decide +kernel
theorem chSc_13 : allN 30 (fun i => chSc (390 + i)) = true := by decide +kernel
theorem chSc_14 : allN 30 (fun i => chSc (420 + i)) = true := by decide +kernel
theorem chSc_15 : allN 30 (fun i => chSc (450 + i)) = true := by decide +kernel
theorem chSc_16 : allN 30 (fun i => chSc (480 + i)) = true := by decide +kernel
theorem chSc_17 : allN 30 (fun i => chSc (510 + i)) = true := by decide +kernel
theorem chSc_18 : allN 30 (fun i => chSc (540 + i)) = true := by decide +kernel
theorem chSc_19 : allN 30 (fun i => chSc (570 + i)) = true := by decide +kernel
theorem chSc_20 : allN 30 (fun i => chSc (600 + i)) = true := by decide +kernel
theorem chSc_21 : allN 30 (fun i => chSc (630 + i)) = true := by decide +kernel
theorem chSc_22 : allN 30 (fun i => chSc (660 + i)) = true := by decide +kernel
theorem chSc_23 : allN 30 (fun i => chSc (690 + i)) = true := by decide +kernel
theorem chSc_24 : allN 30 (fun i => chSc (720 + i)) = true := by decide +kernel
theorem chSc_25 : allN 30 (fun i => chSc (750 + i)) = true := by decide +kernel
theorem chSc_26 : allN 30 (fun i => chSc (780 + i)) = true := by decide +kernel
theorem chSc_27 : allN 30 (fun i => chSc (810 + i)) = true := by decide +kernel
theorem chSc_28 : allN 30 (fun i => chSc (840 + i)) = true := by decide +kernel
theorem chSc_29 : allN 30 (fun i => chSc (870 + i)) = true := by decide +kernel
theorem chSc_30 : chSc 900 = true := by decide +kernel
theorem chSc_q : ∀ q, q < 30 → ∀ i, i < 30 → chSc (30 * q + i) = true := fun q hq => match q, hq with | 0, _ => fun i hi => allN_ok chSc_0 i hi | 1, _ => fun i hi => allN_ok chSc_1 i hi | 2, _ => fun i hi => allN_ok chSc_2 i hi | 3, _ => fun i hi => allN_ok chSc_3 i hi | 4, _ => fun i hi => allN_ok chSc_4 i hi | 5, _ => fun i hi => allN_ok chSc_5 i hi | 6, _ => fun i hi => allN_ok chSc_6 i hi | 7, _ => fun i hi => allN_ok chSc_7 i hi | 8, _ => fun i hi => allN_ok chSc_8 i hi | 9, _ => fun i hi => allN_ok chSc_9 i hi | 10, _ => fun i hi => allN_ok chSc_10 i hi | 11, _ => fun i hi => allN_ok chSc_11 i hi | 12, _ => fun i hi => allN_ok chSc_12 i hi | 13, _ => fun i hi => allN_ok chSc_13 i hi | 14, _ => fun i hi => allN_ok chSc_14 i hi | 15, _ => fun i hi => allN_ok chSc_15 i hi | 16, _ => fun i hi => allN_ok chSc_16 i hi | 17, _ => fun i hi => allN_ok chSc_17 i hi | 18, _ => fun i hi => allN_ok chSc_18 i hi | 19, _ => fun i hi => allN_ok chSc_19 i hi | 20, _ => fun i hi => allN_ok chSc_20 i hi | 21, _ => fun i hi => allN_ok chSc_21 i hi | 22, _ => fun i hi => allN_ok chSc_22 i hi | 23, _ => fun i hi => allN_ok chSc_23 i hi | 24, _ => fun i hi => allN_ok chSc_24 i hi | 25, _ => fun i hi => allN_ok chSc_25 i hi | 26, _ => fun i hi => allN_ok chSc_26 i hi | 27, _ => fun i hi => allN_ok chSc_27 i hi | 28, _ => fun i hi => allN_ok chSc_28 i hi | 29, _ => fun i hi => allN_ok chSc_29 i hi | n + 30, h => absurd h (by omega)
theorem chSc_all {α : Nat} (h : α < 901) : chSc α = true := by
  by_cases h1 : α = 900
  · rw [h1]; exact chSc_30
  · have h2 := chSc_q (α / 30) (by omega) (α % 30) (by omega)
    rwa [show 30 * (α / 30) + α % 30 = α by omega] at h2
theorem semi_ok {Ev : Env9} {α : Nat} (hα : α < 901) : CK Ev 20 (234, ctSc α) := fun k hk =>
  xctr_ok hu0 hang_0 hR9 hMT9 (b := 8) (fun y ct hm => by
    have hm : ct ∈ (Bool.rec [] [ctNa α] (Nat.beq 229 y) : List Ctr) := hm
    cases hb : Nat.beq 229 y with
    | false => rw [hb] at hm; cases hm
    | true => rw [hb] at hm; rw [List.mem_singleton.mp hm, ← Nat.eq_of_beq_eq_true hb]; exact nextA_ok) (show MDOK bo9 234 mdSe from mo_X11_semicolon rfl _) (chSc_all hα) k (by omega)
