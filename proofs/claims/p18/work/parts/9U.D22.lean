/-! the line 'tested'; the end of a line -/
noncomputable def ctM0 (b : Nat) : Ctr := ([(1, 452, 0), (0, (b : Int), (b : Int))], [fM 17 0 900, fM 20 0 0], [], [(13, 17, 21)], [((0, 0), (0, 0, 11 - 4 * (b : Int)), [fM 17 0 900, fM 20 0 0], []), ((0, 0), (0, 0, 0), [fM 17 0 900, fM 20 1 4], [])])
noncomputable def ctM1 (b : Nat) : Ctr := ([(1, 452, 0), (0, (b : Int), (b : Int))], [fM 20 1 4], [], [], [((0, 0), (0, 0, 0), [], [])])
noncomputable def clM : List (Nat × Ctr) := [(229, ctNx), (232, ctGp), (240, ct_249), (240, ct_257)]
noncomputable def mdM : MDT := (3, nb_X11_mustBe, [])
theorem chM00 : xctr kd0 sh0 rt0 bd0 un0 PRA MT0 (ctL clM) 8 mdM (ctM0 0) = true := by decide +kernel
theorem chM01 : xctr kd0 sh0 rt0 bd0 un0 PRA MT0 (ctL clM) 8 mdM (ctM0 1) = true := by decide +kernel
theorem chM10 : xctr kd0 sh0 rt0 bd0 un0 PRA MT0 (ctL clM) 8 mdM (ctM1 0) = true := by decide +kernel
theorem chM11 : xctr kd0 sh0 rt0 bd0 un0 PRA MT0 (ctL clM) 8 mdM (ctM1 1) = true := by decide +kernel
theorem clM_ok {Ev : Env9} {a : Int} (h0 : CK Ev 40 (240, ct_249)) (h1 : CK Ev 40 (240, ct_257)) : ∀ y, ∀ ct ∈ ctL clM y, ∀ k, 40 ≤ k → CtrOK kd0 sh0 rt0 bd0 (InvA a) Ev (runM k) y ct := caL_ok (l := clM) (And.intro (CA_up nx_A (by decide)) (And.intro (CA_up gp_A (by decide)) (And.intro (CA_of h0 (by decide) rfl) (And.intro (CA_of h1 (by decide) rfl) trivial))))
theorem mdM_ok : MDOK bo9 241 mdM := mo_X11_mustBe rfl _
noncomputable def clT : List (Nat × Ctr) := [(232, ctGp), (241, ctM0 0), (241, ctM0 1), (241, ctM1 0), (241, ctM1 1)]
noncomputable def ctTl : Ctr := ([(1, 452, 0)], [fM 17 0 900, fM 18 0 900, fM 19 0 900, fM 20 0 0], [sBW, sBA 0 0], [(13, 17, 21), (31, 339, 626)], [((1, 0), (1, 0, 0), [fM 17 0 900, fM 20 0 0], []), ((1, 0), (1, 0, 0), [fM 17 0 900, fM 20 1 4], [])])
noncomputable def mdTl : MDT := (3, nb_X11_testedLine, [])
theorem chTl : xctr kd0 sh0 rt0 bd0 un0 PRA MT0 (ctL clT) 8 mdTl ctTl = true := by decide +kernel
theorem tl_A {Ev : Env9} {a : Int} (h0 : CK Ev 40 (240, ct_249)) (h1 : CK Ev 40 (240, ct_257)) : CA a Ev 60 (250, ctTl) := fun k hk =>
  xctr_ok hu0 hang_A hR9 hMT9 (b := 49) (caL_ok (l := clT) (And.intro (CA_up gp_A (by decide)) (And.intro (fun k hk => xctr_ok hu0 hang_A hR9 hMT9 (b := 40) (clM_ok h0 h1) mdM_ok chM00 k hk) (And.intro (fun k hk => xctr_ok hu0 hang_A hR9 hMT9 (b := 40) (clM_ok h0 h1) mdM_ok chM01 k hk) (And.intro (fun k hk => xctr_ok hu0 hang_A hR9 hMT9 (b := 40) (clM_ok h0 h1) mdM_ok chM10 k hk) (And.intro (fun k hk => xctr_ok hu0 hang_A hR9 hMT9 (b := 40) (clM_ok h0 h1) mdM_ok chM11 k hk) trivial)))))) (show MDOK bo9 250 mdTl from mo_X11_testedLine rfl _) chTl k (by omega)
