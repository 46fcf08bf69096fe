/-! the program: what reaches a copy keeps the static numbers -/
theorem wf_ct_95 : wfree ct_95 = true := by decide +kernel
theorem x1_96 : xctr kd0 sh0 rt0 bd0 un0 PR1 MT0 (ctL [(70, cp46), (30, ct_95)]) 8 md_96 ct_96 = true := by decide +kernel
theorem g1_96 {Ev : Env9} {v u v' u' : Nat → Int} : CKI (Inv1 v u v' u') Ev 45 (131, ct_96) := xctr_ok hu0 hang_1 hR9 hMT9 (b := 36) (ctI_ok (l := [(70, cp46), (30, ct_95)]) (And.intro (CKI_up cp46_ok (by decide)) (And.intro (CKI_up (show CKI (Inv1 v u v' u') Ev _ (30, ct_95) from (fun k hk => lift1 (cc_95 k hk) wf_ct_95)) (by decide)) trivial))) (mo_X10_fairResult rfl _) x1_96
theorem wf_ct_103 : wfree ct_103 = true := by decide +kernel
theorem x1_104 : xctr kd0 sh0 rt0 bd0 un0 PR1 MT0 (ctL [(70, cp46), (169, ct_103)]) 8 md_104 ct_104 = true := by decide +kernel
theorem g1_104 {Ev : Env9} {v u v' u' : Nat → Int} : CKI (Inv1 v u v' u') Ev 54 (132, ct_104) := xctr_ok hu0 hang_1 hR9 hMT9 (b := 45) (ctI_ok (l := [(70, cp46), (169, ct_103)]) (And.intro (CKI_up cp46_ok (by decide)) (And.intro (CKI_up (show CKI (Inv1 v u v' u') Ev _ (169, ct_103) from (fun k hk => lift1 (cc_103 k hk) wf_ct_103)) (by decide)) trivial))) (mo_X10_savingsAfter rfl _) x1_104
theorem x1_105 : xctr kd0 sh0 rt0 bd0 un0 PR1 MT0 (ctL [(70, cp46), (169, ct_103)]) 8 md_105 ct_105 = true := by decide +kernel
theorem g1_105 {Ev : Env9} {v u v' u' : Nat → Int} : CKI (Inv1 v u v' u') Ev 54 (133, ct_105) := xctr_ok hu0 hang_1 hR9 hMT9 (b := 45) (ctI_ok (l := [(70, cp46), (169, ct_103)]) (And.intro (CKI_up cp46_ok (by decide)) (And.intro (CKI_up (show CKI (Inv1 v u v' u') Ev _ (169, ct_103) from (fun k hk => lift1 (cc_103 k hk) wf_ct_103)) (by decide)) trivial))) (mo_X10_purseAfter rfl _) x1_105
theorem x1_106 : xctr kd0 sh0 rt0 bd0 un0 PR1 MT0 (ctL [(70, cp46), (169, ct_103)]) 8 md_106 ct_106 = true := by decide +kernel
theorem g1_106 {Ev : Env9} {v u v' u' : Nat → Int} : CKI (Inv1 v u v' u') Ev 54 (134, ct_106) := xctr_ok hu0 hang_1 hR9 hMT9 (b := 45) (ctI_ok (l := [(70, cp46), (169, ct_103)]) (And.intro (CKI_up cp46_ok (by decide)) (And.intro (CKI_up (show CKI (Inv1 v u v' u') Ev _ (169, ct_103) from (fun k hk => lift1 (cc_103 k hk) wf_ct_103)) (by decide)) trivial))) (mo_X10_desertsIn rfl _) x1_106
theorem x1_107 : xctr kd0 sh0 rt0 bd0 un0 PR1 MT0 (ctL [(70, cp46), (30, ct_95)]) 8 md_107 ct_107 = true := by decide +kernel
theorem g1_107 {Ev : Env9} {v u v' u' : Nat → Int} : CKI (Inv1 v u v' u') Ev 45 (135, ct_107) := xctr_ok hu0 hang_1 hR9 hMT9 (b := 36) (ctI_ok (l := [(70, cp46), (30, ct_95)]) (And.intro (CKI_up cp46_ok (by decide)) (And.intro (CKI_up (show CKI (Inv1 v u v' u') Ev _ (30, ct_95) from (fun k hk => lift1 (cc_95 k hk) wf_ct_95)) (by decide)) trivial))) (mo_X10_leastWage rfl _) x1_107
theorem x1_127 : xctr kd0 sh0 rt0 bd0 un0 PR1 MT0 (ctL [(169, ct_103), (27, cpPu)]) 8 md_127 ct_127 = true := by decide +kernel
theorem g1_127 {Ev : Env9} {v u v' u' : Nat → Int} : CKI (Inv1 v u v' u') Ev 54 (149, ct_127) := xctr_ok hu0 hang_1 hR9 hMT9 (b := 45) (ctI_ok (l := [(169, ct_103), (27, cpPu)]) (And.intro (CKI_up (show CKI (Inv1 v u v' u') Ev _ (169, ct_103) from (fun k hk => lift1 (cc_103 k hk) wf_ct_103)) (by decide)) (And.intro (CKI_up push_ok (by decide)) trivial))) (mo_X10_passDays rfl _) x1_127
theorem x1_128 : xctr kd0 sh0 rt0 bd0 un0 PR1 MT0 (ctL [(30, ct_95), (27, cpPu)]) 8 md_128 ct_128 = true := by decide +kernel
theorem g1_128 {Ev : Env9} {v u v' u' : Nat → Int} : CKI (Inv1 v u v' u') Ev 45 (150, ct_128) := xctr_ok hu0 hang_1 hR9 hMT9 (b := 36) (ctI_ok (l := [(30, ct_95), (27, cpPu)]) (And.intro (CKI_up (show CKI (Inv1 v u v' u') Ev _ (30, ct_95) from (fun k hk => lift1 (cc_95 k hk) wf_ct_95)) (by decide)) (And.intro (CKI_up push_ok (by decide)) trivial))) (mo_X10_holdFair rfl _) x1_128
theorem wf_ct_72 : wfree ct_72 = true := by decide +kernel
theorem wf_ct_108 : wfree ct_108 = true := by decide +kernel
theorem x1_129 : xctr kd0 sh0 rt0 bd0 un0 PR1 MT0 (ctL [(73, ct_72), (84, ct_108), (27, cpPu)]) 8 md_129 ct_129 = true := by decide +kernel
theorem g1_129 {Ev : Env9} {v u v' u' : Nat → Int} : CKI (Inv1 v u v' u') Ev 27 (151, ct_129) := xctr_ok hu0 hang_1 hR9 hMT9 (b := 18) (ctI_ok (l := [(73, ct_72), (84, ct_108), (27, cpPu)]) (And.intro (CKI_up (show CKI (Inv1 v u v' u') Ev _ (73, ct_72) from (fun k hk => lift1 (cc_72 k hk) wf_ct_72)) (by decide)) (And.intro (CKI_up (show CKI (Inv1 v u v' u') Ev _ (84, ct_108) from (fun k hk => lift1 (cc_108 k hk) wf_ct_108)) (by decide)) (And.intro (CKI_up push_ok (by decide)) trivial)))) (mo_X10_test rfl _) x1_129
theorem wf_ct_100 : wfree ct_100 = true := by decide +kernel
theorem x1_130 : xctr kd0 sh0 rt0 bd0 un0 PR1 MT0 (ctL [(86, ct_100), (27, cpPu)]) 8 md_130 ct_130 = true := by decide +kernel
theorem g1_130 {Ev : Env9} {v u v' u' : Nat → Int} : CKI (Inv1 v u v' u') Ev 27 (152, ct_130) := xctr_ok hu0 hang_1 hR9 hMT9 (b := 18) (ctI_ok (l := [(86, ct_100), (27, cpPu)]) (And.intro (CKI_up (show CKI (Inv1 v u v' u') Ev _ (86, ct_100) from (fun k hk => lift1 (cc_100 k hk) wf_ct_100)) (by decide)) (And.intro (CKI_up push_ok (by decide)) trivial))) (mo_X10_dismiss rfl _) x1_130
theorem x1_131 : xctr kd0 sh0 rt0 bd0 un0 PR1 MT0 (ctL [(27, cpPu)]) 8 md_131 ct_131 = true := by decide +kernel
theorem g1_131 {Ev : Env9} {v u v' u' : Nat → Int} : CKI (Inv1 v u v' u') Ev 27 (153, ct_131) := xctr_ok hu0 hang_1 hR9 hMT9 (b := 18) (ctI_ok (l := [(27, cpPu)]) (And.intro (CKI_up push_ok (by decide)) trivial)) (mo_X10_setWage rfl _) x1_131
theorem x1_132 : xctr kd0 sh0 rt0 bd0 un0 PR1 MT0 (ctL [(27, cpPu)]) 8 md_132 ct_132 = true := by decide +kernel
theorem g1_132 {Ev : Env9} {v u v' u' : Nat → Int} : CKI (Inv1 v u v' u') Ev 27 (154, ct_132) := xctr_ok hu0 hang_1 hR9 hMT9 (b := 18) (ctI_ok (l := [(27, cpPu)]) (And.intro (CKI_up push_ok (by decide)) trivial)) (mo_X10_fund rfl _) x1_132
theorem x1_133 : xctr kd0 sh0 rt0 bd0 un0 PR1 MT0 (ctL [(27, cpPu)]) 8 md_133 ct_133 = true := by decide +kernel
theorem g1_133 {Ev : Env9} {v u v' u' : Nat → Int} : CKI (Inv1 v u v' u') Ev 27 (155, ct_133) := xctr_ok hu0 hang_1 hR9 hMT9 (b := 18) (ctI_ok (l := [(27, cpPu)]) (And.intro (CKI_up push_ok (by decide)) trivial)) (mo_X10_train rfl _) x1_133
theorem x1_135 : xctr kd0 sh0 rt0 bd0 un0 PR1 MT0 (ctL [(28, cpPo)]) 8 md_135 ct_135 = true := by decide +kernel
theorem g1_135 {Ev : Env9} {v u v' u' : Nat → Int} : CKI (Inv1 v u v' u') Ev 27 (156, ct_135) := xctr_ok hu0 hang_1 hR9 hMT9 (b := 18) (ctI_ok (l := [(28, cpPo)]) (And.intro (CKI_up pop_ok (by decide)) trivial)) (mo_X10_undo rfl _) x1_135
noncomputable def clX0J : List (Nat × Ctr) := [(7, ctP), (167, ct_146), (27, cpPu)]
noncomputable def clXJ : List (Nat × Ctr) := [(169, ct_103), (30, ct_95), (84, ct_108), (86, ct_100)]
noncomputable def chX1J (j : Nat) : Bool := Bool.rec false (allL relL (fun q => xseg kd0 sh0 rt0 bd0 un0 (inW wX) PR1 MT0 (ctL clXJ) 6 mdX [(3, [stX3 (j + 1) []])] pXr 1000000 3 (stX3 j (f8 448 4 ((j : Int) + 1) 30 :: relF j q)))) (xseg kd0 sh0 rt0 bd0 un0 (inW wX) PR1 MT0 CT9 0 mdX [] pXr 1000000 3 (stX3 j [f8 448 4 0 j]))
theorem chX_allJ : allN 30 chX1J = true := by decide +kernel
theorem chX30J : xseg kd0 sh0 rt0 bd0 un0 (inW wX) PR1 MT0 CT9 0 mdX [] pXr 1000000 3 (stX3 30 [f8 448 4 0 30]) = true := by decide +kernel
theorem chX0J : xseg kd0 sh0 rt0 bd0 un0 (inW wX) PR1 MT0 (ctL clX0J) 4 mdX [(3, [stX3 0 []])] [((2, 1), (1, 0, 0), [fLen], [])] 1000000 0 (spI 3 ctX.1, [], []) = true := by decide +kernel
theorem bCntJ : bdAt 448 4 0 30 = true := by decide +kernel
theorem exec_okJ {Ev : Env9} {v u v' u' : Nat → Int} (h1 : CKI (Inv1 v u v' u') Ev 50 (7, ctP)) (h2 : CKI (Inv1 v u v' u') Ev 110 (167, ct_146)) (h3 : CKI (Inv1 v u v' u') Ev 110 (27, cpPu)) (h4 : CKI (Inv1 v u v' u') Ev 110 (169, ct_103)) (h5 : CKI (Inv1 v u v' u') Ev 110 (30, ct_95)) (h6 : CKI (Inv1 v u v' u') Ev 110 (84, ct_108)) (h7 : CKI (Inv1 v u v' u') Ev 110 (86, ct_100)) : CKI (Inv1 v u v' u') Ev 120 (102, ctX) := by
  intro k hk
  obtain ⟨k', rfl⟩ : ∃ k', k = k' + 1 := ⟨k - 1, by omega⟩
  refine ctr_st hR9 (md := mdX) (show MDOK bo9 102 mdX from mo_X10_executeCommands rfl _) (Nat.le_of_ble_eq_true rfl) (fun d ct hmC M0 hI0 _ => ?_)
  have hP : ∀ r : Res, r.2.1 = Ev → r.2.2.2.2.2.2.1 = 466 → GM kd0 sh0 rt0 bd0 (inW wX) (Inv1 v u v' u') M0 r.2.2.2.2.2.1 → (∃ q ∈ pXr, pOK kd0 q r) → EnP kd0 sh0 rt0 bd0 (Inv1 v u v' u') Ev ctX M0 r := fun r r1 r2 r3 q => ⟨r1, r2, r3.1, r3.2.1, r3.2.2, by obtain ⟨p, hp, hp2⟩ := q; exact ⟨p, List.mem_cons_of_mem _ hp, hp2⟩⟩
  have hC9 : CS kd0 sh0 rt0 bd0 (inW wX) (Inv1 v u v' u') M0 Ev (runM k') (xM kd0 sh0 rt0 bd0 un0 (inW wX) PR1 MT0 CT9 0) := cs9 hang_1 hR9 hMT9 (by omega)
  have hCX : CS kd0 sh0 rt0 bd0 (inW wX) (Inv1 v u v' u') M0 Ev (runM k') (xM kd0 sh0 rt0 bd0 un0 (inW wX) PR1 MT0 (ctL clXJ) 6) := csL hang_1 (ctI_ok (b := 110) (l := clXJ) (And.intro h4 (And.intro h5 (And.intro h6 (And.intro h7 trivial))))) (by omega)
  have stop : ∀ j, j ≤ 30 → xseg kd0 sh0 rt0 bd0 un0 (inW wX) PR1 MT0 CT9 0 mdX [] pXr 1000000 3 (stX3 j [f8 448 4 0 j]) = true → ∀ f, 1000000 ≤ f → ∀ (L : List AV) (M : Mem), SpOK kd0 (stX3 j []) L M → GM kd0 sh0 rt0 bd0 (inW wX) (Inv1 v u v' u') M0 M → rdI M 448 4 ≤ (j : Int) → OKo (runF (runM k') d ct f 3 Ev 466 0 L [] M) (EnP kd0 sh0 rt0 bd0 (Inv1 v u v' u') Ev ctX M0) := by
    intro j hj hx f hf L M hQ hM hc
    have hb := bdAt_ok bCntJ hM.1
    exact xseg_ok (C := 1000000) (F := 0) hu0 hang_1 hC9 hmC hx (fun q q1 => by cases q1) hP f hf L M ⟨hQ.1, prFa_app (l := [fLen]) hQ.2.1 (prFa_1 (c := 448) (i := 4) (by decide) hb.1 hc), fun q hq => by cases hq⟩ hM
  have key : ∀ m j, j + m = 30 → ∀ f, fu 2000000 2000000 m ≤ f → ∀ (L : List AV) (M : Mem), SpOK kd0 (stX3 j []) L M → GM kd0 sh0 rt0 bd0 (inW wX) (Inv1 v u v' u') M0 M → OKo (runF (runM k') d ct f 3 Ev 466 0 L [] M) (EnP kd0 sh0 rt0 bd0 (Inv1 v u v' u') Ev ctX M0) := by
    intro m
    induction m with
    | zero =>
      intro j hj f hf L M hQ hM
      rw [fu_0] at hf
      have e : j = 30 := by omega
      subst e
      exact stop 30 (Nat.le_refl _) chX30J f (Nat.le_trans (nle rfl) hf) L M hQ hM (bdAt_ok bCntJ hM.1).2
    | succ m ih =>
      intro j hj f hf L M hQ hM
      have hj30 : j < 30 := by omega
      have hj31 : j + 1 + m = 30 := by omega
      rw [fu_s] at hf
      have hZ := fu_b 2000000 2000000 m
      generalize fu 2000000 2000000 m = Z at ih hf hZ
      obtain ⟨g1, g2⟩ := band (a := xseg kd0 sh0 rt0 bd0 un0 (inW wX) PR1 MT0 CT9 0 mdX [] pXr 1000000 3 (stX3 j [f8 448 4 0 j])) (b := allL relL (fun q => xseg kd0 sh0 rt0 bd0 un0 (inW wX) PR1 MT0 (ctL clXJ) 6 mdX [(3, [stX3 (j + 1) []])] pXr 1000000 3 (stX3 j (f8 448 4 ((j : Int) + 1) 30 :: relF j q)))) (allN_ok chX_allJ j hj30)
      by_cases hc : rdI M 448 4 ≤ (j : Int)
      · exact stop j (Nat.le_of_lt hj30) g1 f (fue3 hf (nle rfl)) L M hQ hM hc
      · have hb := bdAt_ok bCntJ hM.1
        obtain ⟨q, hq, hqf⟩ := relF_of (hM.2.1.1.2.1.2.1 j hj30 (Int.not_le.mp hc))
        refine xseg_ok (C := 1000000) (F := Z) hu0 hang_1 hCX hmC (allL_ok g2 q hq) (fun w w1 p w2 => ?_) hP f (fue4 hf (nle rfl)) L M ⟨hQ.1, prFa_app (l := [fLen]) hQ.2.1 (prFa_app (l := [f8 448 4 ((j : Int) + 1) 30]) (prFa_1 (c := 448) (i := 4) (by decide) (ile1 hc) hb.2) hqf), fun q hq => by cases hq⟩ hM
        obtain rfl := List.mem_singleton.mp w1
        obtain rfl := List.mem_singleton.mp w2
        exact fun f' hf' L' M' h9 h8 => ih (j + 1) hj31 f' hf' L' M' h9 h8
  have hfu : fu 2000000 2000000 30 ≤ 62000000 := Nat.le_of_ble_eq_true (by decide +kernel)
  have s0 := xseg_ok (C := 1000000) (F := 62000000) hu0 hang_1 (csL (b := 110) (l := clX0J) (Wp := inW wX) (M0 := M0) (D := 4) (k := k') hang_1 (ctI_ok (And.intro (CKI_up h1 (by omega)) (And.intro h2 (And.intro h3 trivial)))) (by omega)) hmC chX0J (fun q q1 p q2 => by
    obtain rfl := List.mem_singleton.mp q1
    obtain rfl := List.mem_singleton.mp q2
    exact fun f hf L M h9 h8 => key 30 0 (by omega) f (Nat.le_trans hfu hf) L M h9 h8) (P := EnP kd0 sh0 rt0 bd0 (Inv1 v u v' u') Ev ctX M0) (fun r r1 r2 r3 q => ⟨r1, r2, r3.1, r3.2.1, r3.2.2, by obtain ⟨p, hp, hp2⟩ := q; exact ⟨p, by rw [List.mem_singleton.mp hp]; exact List.mem_cons_self, hp2⟩⟩)
  exact fun f hf => s0 f (Nat.le_trans (nle rfl) hf)
theorem wf_ctP : wfree ctP = true := by decide +kernel
theorem wf_ct_146 : wfree ct_146 = true := by decide +kernel
theorem g1_X {Ev : Env9} {v u v' u' : Nat → Int} : CKI (Inv1 v u v' u') Ev 120 (102, ctX) := exec_okJ (CKI_up (show CKI (Inv1 v u v' u') Ev _ (7, ctP) from (fun k hk => lift1 (f_parse k hk) wf_ctP)) (by decide)) (CKI_up (show CKI (Inv1 v u v' u') Ev _ (167, ct_146) from (fun k hk => lift1 (cc_146 k hk) wf_ct_146)) (by decide)) (CKI_up push_ok (by decide)) (CKI_up (show CKI (Inv1 v u v' u') Ev _ (169, ct_103) from (fun k hk => lift1 (cc_103 k hk) wf_ct_103)) (by decide)) (CKI_up (show CKI (Inv1 v u v' u') Ev _ (30, ct_95) from (fun k hk => lift1 (cc_95 k hk) wf_ct_95)) (by decide)) (CKI_up (show CKI (Inv1 v u v' u') Ev _ (84, ct_108) from (fun k hk => lift1 (cc_108 k hk) wf_ct_108)) (by decide)) (CKI_up (show CKI (Inv1 v u v' u') Ev _ (86, ct_100) from (fun k hk => lift1 (cc_100 k hk) wf_ct_100)) (by decide))
theorem xl_348 : xctr kd0 sh0 rt0 bd0 un0 PR1 MT0 (ctL [(102, ctX)]) 2 (3, nb_L_executeCommands, []) cl_348 = true := by decide +kernel
theorem gl_348 {Ev : Env9} {v u v' u' : Nat → Int} : CKI (Inv1 v u v' u') Ev 130 (348, cl_348) := CKI_up (xctr_ok hu0 hang_1 hR9 hMT9 (b := 120) (ctI_ok (l := [(102, ctX)]) (And.intro g1_X trivial)) (mo_L_executeCommands rfl _) xl_348) (by decide)
theorem xl_368 : xctr kd0 sh0 rt0 bd0 un0 PR1 MT0 (ctL [(131, ct_96)]) 2 (4, nb_L_fairResult, []) cl_368 = true := by decide +kernel
theorem gl_368 {Ev : Env9} {v u v' u' : Nat → Int} : CKI (Inv1 v u v' u') Ev 130 (368, cl_368) := CKI_up (xctr_ok hu0 hang_1 hR9 hMT9 (b := 45) (ctI_ok (l := [(131, ct_96)]) (And.intro g1_96 trivial)) (mo_L_fairResult rfl _) xl_368) (by decide)
theorem xl_369 : xctr kd0 sh0 rt0 bd0 un0 PR1 MT0 (ctL [(132, ct_104)]) 2 (5, nb_L_savingsAfter, []) cl_369 = true := by decide +kernel
theorem gl_369 {Ev : Env9} {v u v' u' : Nat → Int} : CKI (Inv1 v u v' u') Ev 130 (369, cl_369) := CKI_up (xctr_ok hu0 hang_1 hR9 hMT9 (b := 54) (ctI_ok (l := [(132, ct_104)]) (And.intro g1_104 trivial)) (mo_L_savingsAfter rfl _) xl_369) (by decide)
theorem xl_370 : xctr kd0 sh0 rt0 bd0 un0 PR1 MT0 (ctL [(133, ct_105)]) 2 (5, nb_L_purseAfter, []) cl_370 = true := by decide +kernel
theorem gl_370 {Ev : Env9} {v u v' u' : Nat → Int} : CKI (Inv1 v u v' u') Ev 130 (370, cl_370) := CKI_up (xctr_ok hu0 hang_1 hR9 hMT9 (b := 54) (ctI_ok (l := [(133, ct_105)]) (And.intro g1_105 trivial)) (mo_L_purseAfter rfl _) xl_370) (by decide)
theorem xl_371 : xctr kd0 sh0 rt0 bd0 un0 PR1 MT0 (ctL [(134, ct_106)]) 2 (4, nb_L_desertsIn, []) cl_371 = true := by decide +kernel
theorem gl_371 {Ev : Env9} {v u v' u' : Nat → Int} : CKI (Inv1 v u v' u') Ev 130 (371, cl_371) := CKI_up (xctr_ok hu0 hang_1 hR9 hMT9 (b := 54) (ctI_ok (l := [(134, ct_106)]) (And.intro g1_106 trivial)) (mo_L_desertsIn rfl _) xl_371) (by decide)
theorem xl_372 : xctr kd0 sh0 rt0 bd0 un0 PR1 MT0 (ctL [(135, ct_107)]) 2 (5, nb_L_leastWage, []) cl_372 = true := by decide +kernel
theorem gl_372 {Ev : Env9} {v u v' u' : Nat → Int} : CKI (Inv1 v u v' u') Ev 130 (372, cl_372) := CKI_up (xctr_ok hu0 hang_1 hR9 hMT9 (b := 45) (ctI_ok (l := [(135, ct_107)]) (And.intro g1_107 trivial)) (mo_L_leastWage rfl _) xl_372) (by decide)
theorem xl_378 : xctr kd0 sh0 rt0 bd0 un0 PR1 MT0 (ctL [(149, ct_127)]) 2 (4, nb_L_passDays, []) cl_378 = true := by decide +kernel
theorem gl_378 {Ev : Env9} {v u v' u' : Nat → Int} : CKI (Inv1 v u v' u') Ev 130 (378, cl_378) := CKI_up (xctr_ok hu0 hang_1 hR9 hMT9 (b := 54) (ctI_ok (l := [(149, ct_127)]) (And.intro g1_127 trivial)) (mo_L_passDays rfl _) xl_378) (by decide)
theorem xl_379 : xctr kd0 sh0 rt0 bd0 un0 PR1 MT0 (ctL [(151, ct_129)]) 2 (5, nb_L_test, []) cl_379 = true := by decide +kernel
theorem gl_379 {Ev : Env9} {v u v' u' : Nat → Int} : CKI (Inv1 v u v' u') Ev 130 (379, cl_379) := CKI_up (xctr_ok hu0 hang_1 hR9 hMT9 (b := 27) (ctI_ok (l := [(151, ct_129)]) (And.intro g1_129 trivial)) (mo_L_test rfl _) xl_379) (by decide)
theorem xl_380 : xctr kd0 sh0 rt0 bd0 un0 PR1 MT0 (ctL [(152, ct_130)]) 2 (4, nb_L_dismiss, []) cl_380 = true := by decide +kernel
theorem gl_380 {Ev : Env9} {v u v' u' : Nat → Int} : CKI (Inv1 v u v' u') Ev 130 (380, cl_380) := CKI_up (xctr_ok hu0 hang_1 hR9 hMT9 (b := 27) (ctI_ok (l := [(152, ct_130)]) (And.intro g1_130 trivial)) (mo_L_dismiss rfl _) xl_380) (by decide)
theorem xl_381 : xctr kd0 sh0 rt0 bd0 un0 PR1 MT0 (ctL [(153, ct_131)]) 2 (5, nb_L_setWage, []) cl_381 = true := by decide +kernel
theorem gl_381 {Ev : Env9} {v u v' u' : Nat → Int} : CKI (Inv1 v u v' u') Ev 130 (381, cl_381) := CKI_up (xctr_ok hu0 hang_1 hR9 hMT9 (b := 27) (ctI_ok (l := [(153, ct_131)]) (And.intro g1_131 trivial)) (mo_L_setWage rfl _) xl_381) (by decide)
theorem xl_382 : xctr kd0 sh0 rt0 bd0 un0 PR1 MT0 (ctL [(154, ct_132)]) 2 (5, nb_L_fund, []) cl_382 = true := by decide +kernel
theorem gl_382 {Ev : Env9} {v u v' u' : Nat → Int} : CKI (Inv1 v u v' u') Ev 130 (382, cl_382) := CKI_up (xctr_ok hu0 hang_1 hR9 hMT9 (b := 27) (ctI_ok (l := [(154, ct_132)]) (And.intro g1_132 trivial)) (mo_L_fund rfl _) xl_382) (by decide)
theorem xl_383 : xctr kd0 sh0 rt0 bd0 un0 PR1 MT0 (ctL [(155, ct_133)]) 2 (4, nb_L_train, []) cl_383 = true := by decide +kernel
theorem gl_383 {Ev : Env9} {v u v' u' : Nat → Int} : CKI (Inv1 v u v' u') Ev 130 (383, cl_383) := CKI_up (xctr_ok hu0 hang_1 hR9 hMT9 (b := 27) (ctI_ok (l := [(155, ct_133)]) (And.intro g1_133 trivial)) (mo_L_train rfl _) xl_383) (by decide)
theorem xl_384 : xctr kd0 sh0 rt0 bd0 un0 PR1 MT0 (ctL [(156, ct_135)]) 2 (3, nb_L_undo, []) cl_384 = true := by decide +kernel
theorem gl_384 {Ev : Env9} {v u v' u' : Nat → Int} : CKI (Inv1 v u v' u') Ev 130 (384, cl_384) := CKI_up (xctr_ok hu0 hang_1 hR9 hMT9 (b := 27) (ctI_ok (l := [(156, ct_135)]) (And.intro g1_135 trivial)) (mo_L_undo rfl _) xl_384) (by decide)
