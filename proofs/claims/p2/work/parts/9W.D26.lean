/-! the end of a line goes forward by one: for each place of the text -/
noncomputable def pNa (α : Nat) : List Pst := yif (Nat.blt α 900) [((0, 0), (0, 0, 255), [fM 17 α 899, fM 18 0 899, fM 19 0 900], [sBW, sBA 0 0])] ++ [((0, 0), (0, -1, -1), [fM 17 α 900, fM 18 0 900, fM 19 0 900], [sBW, sBA 0 0])]
noncomputable def ctNa (α : Nat) : Ctr := ([(1, 452, 0)], [fM 17 α 900], [], [(13, 17, 19)], pNa α)
theorem yif_in {α : Type} {b : Bool} {l : List α} {a : α} (hb : b = true) (h : a ∈ l) : a ∈ yif b l := by
  rw [hb]; exact h
theorem nextA_ok {Ev : Env9} {α : Nat} : CK Ev 8 (229, ctNa α) := by
  intro k hk vs M h1 h2 h3 hT hI
  have g := fact_at h2 (c := 452) (i := 17) (lo := (α : Int)) (hi := 900) List.mem_cons_self
  obtain ⟨r, e, r1, r2, r3, r4, r5, p, p1, p2⟩ := next_A (Ev := Ev) (a := (α : Int)) k hk vs M h1 (prFa_1 (c := 452) (i := 17) (by decide) (Int.le_trans (Int.natCast_nonneg α) g.1) g.2) (fun q hq => by cases hq) hT ⟨hI, g.1⟩
  refine ⟨r, e, r1, r2, r3, r4.1, r5, ?_⟩
  rcases List.mem_cons.mp p1 with z | z
  · subst z
    have w1 := fact_at p2.2.2.1 (c := 452) (i := 17) (lo := 0) (hi := 899) List.mem_cons_self
    have hα : Nat.blt α 900 = true := Nat.blt_eq.mpr (by have := r4.2; have := w1.2; omega)
    refine ⟨_, List.mem_append_left _ (yif_in hα List.mem_cons_self), p2.1, p2.2.1, ?_, p2.2.2.2⟩
    exact prFa_app (l := [fM 17 α 899]) (prFa_1 (c := 452) (i := 17) (by decide) r4.2 w1.2) (fun a ha => p2.2.2.1 a (List.mem_cons_of_mem _ ha))
  · obtain rfl := List.mem_singleton.mp z
    have w1 := fact_at p2.2.2.1 (c := 452) (i := 17) (lo := 0) (hi := 900) List.mem_cons_self
    refine ⟨_, List.mem_append_right _ List.mem_cons_self, p2.1, p2.2.1, ?_, p2.2.2.2⟩
    exact prFa_app (l := [fM 17 α 900]) (prFa_1 (c := 452) (i := 17) (by decide) r4.2 w1.2) (fun a ha => p2.2.2.1 a (List.mem_cons_of_mem _ ha))
noncomputable def mdSe : MDT := (1, nb_X11_semicolon, [])
noncomputable def pSc (α : Nat) : List Pst := [((1, 0), (1, 0, 0), [fM 17 ((α : Int) + 1) 900, fM 20 0 0], []), ((1, 0), (1, 0, 0), [fM 17 ((α : Int) + 1) 901, fM 20 1 4], [])]
noncomputable def ctSc (α : Nat) : Ctr := ([(1, 452, 0)], [fM 17 α 900, fM 20 0 0], [], [(13, 17, 21)], pSc α)
noncomputable def chSc (α : Nat) : Bool := xctr kd0 sh0 rt0 bd0 un0 PR0 MT0 (ctL [(229, ctNa α)]) 4 mdSe (ctSc α)
theorem chSc_a : allN 301 (fun i => chSc i) = true := by decide +kernel
theorem chSc_b : allN 300 (fun i => chSc (301 + i)) = true := by decide +kernel
theorem chSc_c : allN 300 (fun i => chSc (601 + i)) = true := by decide +kernel
theorem chSc_all {α : Nat} (h : α < 901) : chSc α = true := by
  by_cases h1 : α < 301
  · exact allN_ok chSc_a α h1
  · by_cases h2 : α < 601
    · have := allN_ok chSc_b (α - 301) (by omega)
      rwa [show 301 + (α - 301) = α by omega] at this
    · have := allN_ok chSc_c (α - 601) (by omega)
      rwa [show 601 + (α - 601) = α by omega] at this
theorem semi_ok {Ev : Env9} {α : Nat} (hα : α < 901) : CK Ev 20 (234, ctSc α) := fun k hk =>
  xctr_ok hu0 hang_0 hR9 hMT9 (b := 8) (fun y ct hm => by
    have hm : ct ∈ (Bool.rec [] [ctNa α] (Nat.beq 229 y) : List Ctr) := hm
    cases hb : Nat.beq 229 y with
    | false => rw [hb] at hm; cases hm
    | true => rw [hb] at hm; rw [List.mem_singleton.mp hm, ← Nat.eq_of_beq_eq_true hb]; exact nextA_ok) (show MDOK bo9 234 mdSe from mo_X11_semicolon rfl _) (chSc_all hα) k (by omega)
