/-! a line 'tested' makes the parser go forward -/
theorem lift_A {Ev : Env9} {call : Call} {y : Nat} {ct : Ctr} {a : Int} (h : CtrOK kd0 sh0 rt0 bd0 Inv0 Ev call y ct) (hw : inW ct.2.2.2.1 13 ((17 : Nat) : Int) = false) : CtrOK kd0 sh0 rt0 bd0 (InvA a) Ev call y ct :=
  ctr_lift h (fun M g => g.1) (fun M M' _ g g2 _ g4 _ => ⟨g2, by rw [g4 452 (by omega) 17 (by rw [kd_452]; exact hw)]; exact g.2⟩)
/-- contracts under InvA -/
def CA (a : Int) (Ev : Env9) (b : Nat) (p : Nat × Ctr) : Prop := ∀ k, b ≤ k → CtrOK kd0 sh0 rt0 bd0 (InvA a) Ev (runM k) p.1 p.2
theorem CA_of {a : Int} {Ev : Env9} {b c : Nat} {p : Nat × Ctr} (h : CK Ev b p) (hb : b ≤ c) (hw : inW p.2.2.2.2.1 13 ((17 : Nat) : Int) = false) : CA a Ev c p := fun k hk => lift_A (h k (Nat.le_trans hb hk)) hw
theorem CA_up {a : Int} {Ev : Env9} {b c : Nat} {p : Nat × Ctr} (h : CA a Ev b p) (hb : b ≤ c) : CA a Ev c p := fun k hk => h k (Nat.le_trans hb hk)
theorem caL_ok {a : Int} {Ev : Env9} {b : Nat} : ∀ {l : List (Nat × Ctr)}, allC (CA a Ev b) l → ∀ y, ∀ ct ∈ ctL l y, ∀ k, b ≤ k → CtrOK kd0 sh0 rt0 bd0 (InvA a) Ev (runM k) y ct := by
  intro l
  induction l with
  | nil => intro _ y ct h; cases h
  | cons q l ih =>
    intro hl y ct hm
    obtain ⟨h1, h2⟩ := hl
    have hm : ct ∈ (Bool.rec (ctL l y) (q.2 :: ctL l y) (Nat.beq q.1 y) : List Ctr) := hm
    cases hb : Nat.beq q.1 y with
    | false => rw [hb] at hm; exact ih h2 y ct hm
    | true =>
      rw [hb] at hm
      rcases List.mem_cons.mp hm with e | e
      · subst e
        intro k hk
        have := h1 k hk
        rwa [Nat.eq_of_beq_eq_true hb] at this
      · exact ih h2 y ct e
theorem nx_A {Ev : Env9} {a : Int} : CA a Ev 8 (229, ctNx) := next_A
noncomputable def pSe : List Pst := [((0, 0), (0, 0, 0), [fM 17 0 900, fM 18 0 900, fM 19 0 900], [sBW, sBA 0 0]), ((0, 0), (0, 1, 1), [fM 17 0 900, fM 18 0 900, fM 19 0 900], [sBW, sBA 0 0])]
noncomputable def ctSe (w : Nat) : Ctr := ([(1, 452, 0), (4, (w : Int), 0)], [fM 17 0 900], [], [(13, 17, 19)], pSe)
noncomputable def clS1 : List (Nat × Ctr) := [(229, ctNx), (338, ct_17), (339, ct_18), (339, ct_19)]
noncomputable def clS2 : List (Nat × Ctr) := [(229, ctNx), (338, ct_21), (339, ct_22), (339, ct_23)]
noncomputable def clS3 : List (Nat × Ctr) := [(229, ctNx), (338, ct_25), (339, ct_26), (339, ct_27)]
theorem chSe1 : xctr kd0 sh0 rt0 bd0 un0 PRA MT0 (ctL clS1) 8 md_272 (ctSe 28) = true := by decide +kernel
theorem chSe2 : xctr kd0 sh0 rt0 bd0 un0 PRA MT0 (ctL clS2) 8 md_273 (ctSe 29) = true := by decide +kernel
theorem chSe3 : xctr kd0 sh0 rt0 bd0 un0 PRA MT0 (ctL clS3) 8 md_274 (ctSe 30) = true := by decide +kernel
theorem se1_A {Ev : Env9} {a : Int} : CA a Ev 20 (231, ctSe 28) := fun k hk => xctr_ok hu0 hang_A hR9 hMT9 (b := 8) (caL_ok (l := clS1) (And.intro nx_A (And.intro (CA_of hh_17 (by decide) rfl) (And.intro (CA_of hh_18 (by decide) rfl) (And.intro (CA_of hh_19 (by decide) rfl) trivial))))) (show MDOK bo9 231 md_272 from mo_X11_sees rfl _) chSe1 k (by omega)
theorem se2_A {Ev : Env9} {a : Int} : CA a Ev 20 (231, ctSe 29) := fun k hk => xctr_ok hu0 hang_A hR9 hMT9 (b := 8) (caL_ok (l := clS2) (And.intro nx_A (And.intro (CA_of hh_21 (by decide) rfl) (And.intro (CA_of hh_22 (by decide) rfl) (And.intro (CA_of hh_23 (by decide) rfl) trivial))))) (show MDOK bo9 231 md_273 from mo_X11_sees rfl _) chSe2 k (by omega)
theorem se3_A {Ev : Env9} {a : Int} : CA a Ev 20 (231, ctSe 30) := fun k hk => xctr_ok hu0 hang_A hR9 hMT9 (b := 8) (caL_ok (l := clS3) (And.intro nx_A (And.intro (CA_of hh_25 (by decide) rfl) (And.intro (CA_of hh_26 (by decide) rfl) (And.intro (CA_of hh_27 (by decide) rfl) trivial))))) (show MDOK bo9 231 md_274 from mo_X11_sees rfl _) chSe3 k (by omega)
/-- past the word: at is begin and the word -/
noncomputable def ctGp : Ctr := ([(1, 452, 0)], [fM 17 0 900, fM 18 0 900, fM 19 0 900], [sBW, sBA 0 0], [(13, 17, 17)], [((1, 0), (1, 0, 0), [fM 17 0 900], [])])
noncomputable def mdGp : MDT := (1, nb_X11_goesPast, [])
noncomputable def chGp1 (β : Nat) : Bool := xseg kd0 sh0 rt0 bd0 un0 (inW [(13, 17, 17)]) PR0 MT0 CT9 0 mdGp [] [((1, 0), (1, 0, 0), [fM 17 β 900], [])] 1000 0 ([some (1, 452, 0)], [fM 18 β β, fM 19 0 (900 - (β : Int))], [])
theorem chGp : allN 901 chGp1 = true := by decide +kernel
theorem gp_A {Ev : Env9} {a : Int} : CA a Ev 8 (232, ctGp) := by
  intro k hk
  obtain ⟨k', rfl⟩ : ∃ k', k = k' + 1 := ⟨k - 1, by omega⟩
  refine ctr_st hR9 (show MDOK bo9 232 mdGp from mo_X11_goesPast rfl _) (Nat.le_of_ble_eq_true rfl) (fun d ct hmC M0 _ _ f hf L M hQ hM => ?_)
  have g1 := fact_at hQ.2.1 (c := 452) (i := 18) (lo := 0) (hi := 900) (List.mem_cons_of_mem _ List.mem_cons_self)
  have g2 := fact_at hQ.2.1 (c := 452) (i := 19) (lo := 0) (hi := 900) (List.mem_cons_of_mem _ (List.mem_cons_of_mem _ List.mem_cons_self))
  have s1 := sum_at hQ.2.2 (c := 452) (i := 18) (c' := 452) (i' := 19) (s := 1) (lo := 0) (hi := 900) List.mem_cons_self
  have s2 := sum_at hQ.2.2 (c := 452) (i := 18) (c' := 452) (i' := 17) (s := -1) (lo := 0) (hi := 0) (List.mem_cons_of_mem _ List.mem_cons_self)
  obtain ⟨β, hβ, hβe⟩ : ∃ β : Nat, β < 901 ∧ rdI M 452 18 = (β : Int) := ⟨(rdI M 452 18).toNat, by omega, by omega⟩
  have hA := hM.2.1.2
  refine seg1 (C := 1000) (F := 0) hu0 hang_0 CS_nil0 hmC (allN_ok chGp β hβ) (by omega) ⟨hQ.1, prFa_app (l := [fM 18 β β]) (prFa_1 (c := 452) (i := 18) (by omega) (by omega) (by omega)) (prFa_1 (c := 452) (i := 19) (by omega) g2.1 (by omega)), fun q hq => by cases hq⟩ hM.1 hM.2.1.1 (fun q q1 => by cases q1) (fun r r1 r2 r3 q => ?_)
  obtain ⟨w, hw, hw1⟩ := q
  obtain rfl := List.mem_singleton.mp hw
  have g5 := fact_at hw1.2.2.1 (c := 452) (i := 17) (lo := (β : Int)) (hi := 900) (List.mem_singleton.mpr rfl)
  exact ⟨r1, r2, r3.1, ⟨r3.2.1, by omega⟩, fr_tr hM.2.2 r3.2.2 (fun _ _ h => h), _, List.mem_singleton.mpr rfl, hw1.1, hw1.2.1, prFa_1 (c := 452) (i := 17) (by omega) (by omega) g5.2, hw1.2.2.2⟩
