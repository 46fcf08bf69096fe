/-! the reference's simulations and operations keep the static numbers (of the places stL) -/
noncomputable def stG : List Nat := stL.filter (fun i => Nat.ble 2 i)
noncomputable def eqG (a : Nat) : List Fct := stG.map (fun i : Nat => ((.inl a, (0, 0, (i : Int))), (bd0 (kd0 a) (i : Int)).1, (bd0 (kd0 a) (i : Int)).2))
noncomputable def eqT (a b : Nat) : List Sct := ([0, 1] : List Nat).map (fun i : Nat => ((.inl b, (0, 0, (i : Int))), (.inl a, (0, 0, (i : Int))), (-1), 0, 0))
theorem eqG_5 : allL stG (fun i => ytyp kd0 sh0 455 ((i : Nat) : Int)) = true := by decide +kernel
theorem eqG_6 : allL stG (fun i => ytyp kd0 sh0 456 ((i : Nat) : Int)) = true := by decide +kernel
theorem eqG_of {a : Nat} {M : Mem} (ha : a < 466) (h : allL stG (fun i => ytyp kd0 sh0 a ((i : Nat) : Int)) = true) (hT : TI kd0 sh0 rt0 bd0 M) : PrFa kd0 [] (eqG a) M := by
  intro q hq
  obtain ⟨i, hi, rfl⟩ := List.mem_map.mp hq
  obtain ⟨h1, h2⟩ := bd_of (k := a) (i := i) hT (allL_ok h i hi) rfl
  exact ⟨a, i, ⟨⟨ha, rfl⟩, yev_c⟩, h1, h2⟩
noncomputable def cpFw : Ctr := (cpA 453 456, gdR 453 0, [], ct_189.2.2.2.1, [((1, 0), (1, 0, 0), gdR 456 0 ++ (gdR 453 0 ++ eqG 456), eqS 453 456)])
noncomputable def cpBk : Ctr := (cpA 456 453, gdR 456 0, eqS 453 456, ct_191.2.2.2.1, [((1, 0), (1, 0, 0), gdR 453 0, [])])
noncomputable def cpHd : Ctr := (cpA 453 455, gdR 453 0, [], ct_222.2.2.2.1, [((1, 0), (1, 0, 0), gdR 455 0 ++ (gdR 453 0 ++ eqG 455), eqS 453 455)])
noncomputable def kpHd : Ctr := (ct_224.1, ct_224.2.1, eqS 453 455, ct_224.2.2.2)
theorem hwF_1 : allN 627 (fun i => inW ct_189.2.2.2.1 (kd0 456) ((i : Nat) : Int)) = true := by decide +kernel
theorem hwF_2 : allN 627 (fun i => inW ct_191.2.2.2.1 (kd0 453) ((i : Nat) : Int)) = true := by decide +kernel
theorem hwF_3 : allN 627 (fun i => inW ct_222.2.2.2.1 (kd0 455) ((i : Nat) : Int)) = true := by decide +kernel
theorem prSu_0 {M : Mem} : PrSu kd0 [] [] M := fun q hq => by cases hq
theorem gd_kp {a b : Nat} {M M' : Mem} (ha : a < 466) (hab : a ≠ b) (h : CpR a 0 b 0 627 M M') (hg : PrFa kd0 [] (gdR a 0) M) : PrFa kd0 [] (gdR a 0) M' := of_good ha (GoodR_eq (fun j hj => h.2 a ha _ (Or.inl hab)) (good_of hg))
theorem cpFw_ok {Ev : Env9} {v u v' u' : Nat → Int} : CKI (Inv1 v u v' u') Ev 1 (178, cpFw) := cpX_ok (a := 453) (b := 456) (by decide) (by decide) (by decide) cpk_453_0_456_0 hwF_1 (fun M M' hT hT' hI _ hg h => ⟨⟨Inv0_cp (by decide) (by decide) h (by decide) (by decide) (by decide) hI.1, JC_cpR (by decide) h hI.2.1, JR_cpR (by decide) (by decide) (by decide) (by decide) h hI.2.2⟩, prFa_app (gd_cp (by decide) h hg) (prFa_app (gd_kp (by decide) (by decide) h hg) (eqG_of (by decide) eqG_6 hT')), eqS_of (by decide) (by decide) (eq_fw (by decide) (by decide) h)⟩)
theorem cpHd_ok {Ev : Env9} {v u v' u' : Nat → Int} : CKI (Inv1 v u v' u') Ev 1 (178, cpHd) := cpX_ok (a := 453) (b := 455) (by decide) (by decide) (by decide) cpk_453_0_455_0 hwF_3 (fun M M' hT hT' hI _ hg h => ⟨⟨Inv0_cp (by decide) (by decide) h (by decide) (by decide) (by decide) hI.1, JC_cpR (by decide) h hI.2.1, JR_cpR (by decide) (by decide) (by decide) (by decide) h hI.2.2⟩, prFa_app (gd_cp (by decide) h hg) (prFa_app (gd_kp (by decide) (by decide) h hg) (eqG_of (by decide) eqG_5 hT')), eqS_of (by decide) (by decide) (eq_fw (by decide) (by decide) h)⟩)
theorem cpBk_ok {Ev : Env9} {v u v' u' : Nat → Int} : CKI (Inv1 v u v' u') Ev 1 (178, cpBk) := cpX_ok (a := 456) (b := 453) (by decide) (by decide) (by decide) cpk_456_0_453_0 hwF_2 (fun M M' hT hT' hI hs hg h => ⟨⟨Inv0_cp (by decide) (by decide) h (by decide) (by decide) (by decide) hI.1, JC_cpR (by decide) h hI.2.1, JR_bk h hs hI.2.2⟩, gd_cp (by decide) h hg, prSu_0⟩)
theorem kpJ_455 {Ev : Env9} {v u v' u' : Nat → Int} : ∀ k, 60 ≤ k → CtrOK kd0 sh0 rt0 bd0 (fun M => Inv1 v u v' u' M ∧ StW v' M 455 0) Ev (runM k) 258 (ct_224.1, ct_224.2) := kp_view (c := 455) (v := v) (u := u) (v' := v') (u' := u') (Or.inr rfl) hh_224 rfl np_224 (fun M h => h) (fun M a b => ⟨a, b⟩)
theorem kpHd_ok {Ev : Env9} {v u v' u' : Nat → Int} : CKI (Inv1 v u v' u') Ev 60 (258, kpHd) := by
  intro k hk vs M h1 h2 h3 hT hI
  have S : StW v' M 455 0 := fun i hi hs => by
    have e := eqS_at (a := 453) (b := 455) h3 hi hs
    have := hI.2.2.1 i hi hs
    rw [Nat.zero_add] at this ⊢
    exact e.trans this
  obtain ⟨r, e, r1, r2, r3, r4, r5⟩ := kpJ_455 k hk vs M h1 h2 prSu_0 hT ⟨hI, S⟩
  exact ⟨r, e, r1, r2, r3, r4.1, r5⟩
noncomputable def ct_tn : Ctr := ([(1, 452, 0), (0, 0, 11)], [], [], [(13, 14, 14), (31, 10, 10), (31, 31, 31), (31, 34, 34), (31, 46, 46), (31, 49, 49), (31, 61, 61), (31, 64, 64), (31, 76, 76), (31, 79, 79), (31, 91, 91), (31, 94, 94), (31, 106, 106), (31, 109, 109), (31, 121, 121), (31, 124, 124), (31, 136, 136), (31, 139, 139), (31, 151, 151), (31, 154, 154), (31, 166, 166), (31, 169, 169), (31, 181, 181), (31, 184, 184), (31, 196, 196), (31, 199, 199)], [((0, 0), (0, 0, 1), [], [])])
theorem x1_tn : xctr kd0 sh0 rt0 bd0 un0 PR1 MT0 (ctL []) 7 (3, nb_X11_trainNow, []) ct_tn = true := by decide +kernel
theorem tn_ok {Ev : Env9} {v u v' u' : Nat → Int} : CKI (Inv1 v u v' u') Ev 8 (224, ct_tn) := xctr_ok hu0 hang_1 hR9 hMT9 (b := 0) (ctI_ok (l := []) trivial) (mo_X11_trainNow rfl _) x1_tn
noncomputable def ct_wn : Ctr := ([(1, 452, 0), (0, 0, 7), (0, (-2147483648), 2147483647)], [], [], [(13, 14, 14), (31, 212, 212), (31, 229, 229), (31, 246, 246), (31, 263, 263), (31, 280, 280), (31, 297, 297), (31, 314, 314), (31, 331, 331)], [((0, 0), (0, 0, 1), [], [])])
theorem x1_wn : xctr kd0 sh0 rt0 bd0 un0 PR1 MT0 (ctL []) 7 (3, nb_X11_wageNow, []) ct_wn = true := by decide +kernel
theorem wn_ok {Ev : Env9} {v u v' u' : Nat → Int} : CKI (Inv1 v u v' u') Ev 8 (221, ct_wn) := xctr_ok hu0 hang_1 hR9 hMT9 (b := 0) (ctI_ok (l := []) trivial) (mo_X11_wageNow rfl _) x1_wn
noncomputable def ct_fn : Ctr := ([(1, 452, 0), (0, 0, 7), (0, (-2147483648), 2147483647)], [], [], [(13, 14, 14), (31, 9, 9), (31, 213, 213), (31, 230, 230), (31, 247, 247), (31, 264, 264), (31, 281, 281), (31, 298, 298), (31, 315, 315), (31, 332, 332)], [((0, 0), (0, 0, 1), [], [])])
theorem x1_fn : xctr kd0 sh0 rt0 bd0 un0 PR1 MT0 (ctL []) 7 (3, nb_X11_fundNow, []) ct_fn = true := by decide +kernel
theorem fn_ok {Ev : Env9} {v u v' u' : Nat → Int} : CKI (Inv1 v u v' u') Ev 8 (222, ct_fn) := xctr_ok hu0 hang_1 hR9 hMT9 (b := 0) (ctI_ok (l := []) trivial) (mo_X11_fundNow rfl _) x1_fn
theorem wg_190 : wfree ct_190 = true := by decide +kernel
theorem x1_192 : xctr kd0 sh0 rt0 bd0 un0 PR1 MT0 (ctL [(178, cpFw), (208, ct_190), (178, cpBk)]) 8 md_192 ct_192 = true := by decide +kernel
theorem g1_192 {Ev : Env9} {v u v' u' : Nat → Int} : CKI (Inv1 v u v' u') Ev 69 (296, ct_192) := xctr_ok hu0 hang_1 hR9 hMT9 (b := 60) (ctI_ok (l := [(178, cpFw), (208, ct_190), (178, cpBk)]) (And.intro (CKI_up cpFw_ok (by decide)) (And.intro (CKI_up (show CKI (Inv1 v u v' u') Ev _ (208, ct_190) from (fun k hk => lift1 (f_190 k hk) wg_190)) (by decide)) (And.intro (CKI_up cpBk_ok (by decide)) trivial)))) (mo_X11_fairResult rfl _) x1_192
theorem wg_199 : wfree ct_199 = true := by decide +kernel
theorem x1_200 : xctr kd0 sh0 rt0 bd0 un0 PR1 MT0 (ctL [(178, cpFw), (178, cpBk), (214, ct_199)]) 8 md_200 ct_200 = true := by decide +kernel
theorem g1_200 {Ev : Env9} {v u v' u' : Nat → Int} : CKI (Inv1 v u v' u') Ev 107 (298, ct_200) := xctr_ok hu0 hang_1 hR9 hMT9 (b := 98) (ctI_ok (l := [(178, cpFw), (178, cpBk), (214, ct_199)]) (And.intro (CKI_up cpFw_ok (by decide)) (And.intro (CKI_up cpBk_ok (by decide)) (And.intro (CKI_up (show CKI (Inv1 v u v' u') Ev _ (214, ct_199) from (fun k hk => lift1 (f_199 k hk) wg_199)) (by decide)) trivial)))) (mo_X11_savingsAfter rfl _) x1_200
theorem x1_201 : xctr kd0 sh0 rt0 bd0 un0 PR1 MT0 (ctL [(178, cpFw), (178, cpBk), (214, ct_199)]) 8 md_201 ct_201 = true := by decide +kernel
theorem g1_201 {Ev : Env9} {v u v' u' : Nat → Int} : CKI (Inv1 v u v' u') Ev 107 (299, ct_201) := xctr_ok hu0 hang_1 hR9 hMT9 (b := 98) (ctI_ok (l := [(178, cpFw), (178, cpBk), (214, ct_199)]) (And.intro (CKI_up cpFw_ok (by decide)) (And.intro (CKI_up cpBk_ok (by decide)) (And.intro (CKI_up (show CKI (Inv1 v u v' u') Ev _ (214, ct_199) from (fun k hk => lift1 (f_199 k hk) wg_199)) (by decide)) trivial)))) (mo_X11_purseAfter rfl _) x1_201
theorem wg_198 : wfree ct_198 = true := by decide +kernel
noncomputable def md_202J : MDT := (4, nb_X11_desertsIn, [(3, ([(3, 1, 121)], [(((.inl 453, (0, 0, 0)) : RK × Aff), 1, 12), (((.inl 453, (0, 0, 1)) : RK × Aff), 1, 8), (((.inl 453, (0, 0, 3)) : RK × Aff), 1, 30), (((.inl 453, (0, 0, 4)) : RK × Aff), 1, 12)], ct_198.2.2.2.1, eqT 453 456, false, true, []))])
theorem x1_202 : xctr kd0 sh0 rt0 bd0 un0 PR1 MT0 (ctL [(178, cpFw), (178, cpBk), (213, ct_198)]) 8 md_202J ct_202 = true := by decide +kernel
theorem g1_202 {Ev : Env9} {v u v' u' : Nat → Int} : CKI (Inv1 v u v' u') Ev 98 (300, ct_202) := xctr_ok hu0 hang_1 hR9 hMT9 (b := 89) (ctI_ok (l := [(178, cpFw), (178, cpBk), (213, ct_198)]) (And.intro (CKI_up cpFw_ok (by decide)) (And.intro (CKI_up cpBk_ok (by decide)) (And.intro (CKI_up (show CKI (Inv1 v u v' u') Ev _ (213, ct_198) from (fun k hk => lift1 (f_198 k hk) wg_198)) (by decide)) trivial)))) (mo_X11_desertsIn rfl _) x1_202
theorem x1_203 : xctr kd0 sh0 rt0 bd0 un0 PR1 MT0 (ctL [(178, cpFw), (208, ct_190), (178, cpBk)]) 8 md_203 ct_203 = true := by decide +kernel
theorem g1_203 {Ev : Env9} {v u v' u' : Nat → Int} : CKI (Inv1 v u v' u') Ev 69 (301, ct_203) := xctr_ok hu0 hang_1 hR9 hMT9 (b := 60) (ctI_ok (l := [(178, cpFw), (208, ct_190), (178, cpBk)]) (And.intro (CKI_up cpFw_ok (by decide)) (And.intro (CKI_up (show CKI (Inv1 v u v' u') Ev _ (208, ct_190) from (fun k hk => lift1 (f_190 k hk) wg_190)) (by decide)) (And.intro (CKI_up cpBk_ok (by decide)) trivial)))) (mo_X11_leastWage rfl _) x1_203
theorem wg_223 : wfree ct_223 = true := by decide +kernel
theorem x1_225 : xctr kd0 sh0 rt0 bd0 un0 PR1 MT0 (ctL [(214, ct_199), (178, cpHd), (215, ct_223), (258, kpHd)]) 8 md_225 ct_225 = true := by decide +kernel
theorem g1_225 {Ev : Env9} {v u v' u' : Nat → Int} : CKI (Inv1 v u v' u') Ev 107 (321, ct_225) := xctr_ok hu0 hang_1 hR9 hMT9 (b := 98) (ctI_ok (l := [(214, ct_199), (178, cpHd), (215, ct_223), (258, kpHd)]) (And.intro (CKI_up (show CKI (Inv1 v u v' u') Ev _ (214, ct_199) from (fun k hk => lift1 (f_199 k hk) wg_199)) (by decide)) (And.intro (CKI_up cpHd_ok (by decide)) (And.intro (CKI_up (show CKI (Inv1 v u v' u') Ev _ (215, ct_223) from (fun k hk => lift1 (cc_223 k hk) wg_223)) (by decide)) (And.intro (CKI_up kpHd_ok (by decide)) trivial))))) (mo_X11_passDays rfl _) x1_225
theorem x1_226 : xctr kd0 sh0 rt0 bd0 un0 PR1 MT0 (ctL [(208, ct_190), (178, cpHd), (258, kpHd)]) 8 md_226 ct_226 = true := by decide +kernel
theorem g1_226 {Ev : Env9} {v u v' u' : Nat → Int} : CKI (Inv1 v u v' u') Ev 69 (322, ct_226) := xctr_ok hu0 hang_1 hR9 hMT9 (b := 60) (ctI_ok (l := [(208, ct_190), (178, cpHd), (258, kpHd)]) (And.intro (CKI_up (show CKI (Inv1 v u v' u') Ev _ (208, ct_190) from (fun k hk => lift1 (f_190 k hk) wg_190)) (by decide)) (And.intro (CKI_up cpHd_ok (by decide)) (And.intro (CKI_up kpHd_ok (by decide)) trivial)))) (mo_X11_holdFair rfl _) x1_226
theorem wg_174 : wfree ct_174 = true := by decide +kernel
theorem wg_204 : wfree ct_204 = true := by decide +kernel
theorem x1_227 : xctr kd0 sh0 rt0 bd0 un0 PR1 MT0 (ctL [(193, ct_174), (218, ct_204), (178, cpHd), (258, kpHd)]) 8 md_227 ct_227 = true := by decide +kernel
theorem g1_227 {Ev : Env9} {v u v' u' : Nat → Int} : CKI (Inv1 v u v' u') Ev 69 (323, ct_227) := xctr_ok hu0 hang_1 hR9 hMT9 (b := 60) (ctI_ok (l := [(193, ct_174), (218, ct_204), (178, cpHd), (258, kpHd)]) (And.intro (CKI_up (show CKI (Inv1 v u v' u') Ev _ (193, ct_174) from (fun k hk => lift1 (cc_174 k hk) wg_174)) (by decide)) (And.intro (CKI_up (show CKI (Inv1 v u v' u') Ev _ (218, ct_204) from (fun k hk => lift1 (cc_204 k hk) wg_204)) (by decide)) (And.intro (CKI_up cpHd_ok (by decide)) (And.intro (CKI_up kpHd_ok (by decide)) trivial))))) (mo_X11_test rfl _) x1_227
theorem wg_228 : wfree ct_228 = true := by decide +kernel
theorem x1_229 : xctr kd0 sh0 rt0 bd0 un0 PR1 MT0 (ctL [(178, cpHd), (258, kpHd), (220, ct_228)]) 8 md_229 ct_229 = true := by decide +kernel
theorem g1_229 {Ev : Env9} {v u v' u' : Nat → Int} : CKI (Inv1 v u v' u') Ev 69 (324, ct_229) := xctr_ok hu0 hang_1 hR9 hMT9 (b := 60) (ctI_ok (l := [(178, cpHd), (258, kpHd), (220, ct_228)]) (And.intro (CKI_up cpHd_ok (by decide)) (And.intro (CKI_up kpHd_ok (by decide)) (And.intro (CKI_up (show CKI (Inv1 v u v' u') Ev _ (220, ct_228) from (fun k hk => lift1 (hh_228 k hk) wg_228)) (by decide)) trivial)))) (mo_X11_dismiss rfl _) x1_229
theorem x1_230 : xctr kd0 sh0 rt0 bd0 un0 PR1 MT0 (ctL [(178, cpHd), (258, kpHd), (221, ct_wn)]) 8 md_230 ct_230 = true := by decide +kernel
theorem g1_230 {Ev : Env9} {v u v' u' : Nat → Int} : CKI (Inv1 v u v' u') Ev 69 (325, ct_230) := xctr_ok hu0 hang_1 hR9 hMT9 (b := 60) (ctI_ok (l := [(178, cpHd), (258, kpHd), (221, ct_wn)]) (And.intro (CKI_up cpHd_ok (by decide)) (And.intro (CKI_up kpHd_ok (by decide)) (And.intro (CKI_up wn_ok (by decide)) trivial)))) (mo_X11_setWage rfl _) x1_230
theorem x1_231 : xctr kd0 sh0 rt0 bd0 un0 PR1 MT0 (ctL [(178, cpHd), (258, kpHd), (222, ct_fn)]) 8 md_231 ct_231 = true := by decide +kernel
theorem g1_231 {Ev : Env9} {v u v' u' : Nat → Int} : CKI (Inv1 v u v' u') Ev 69 (326, ct_231) := xctr_ok hu0 hang_1 hR9 hMT9 (b := 60) (ctI_ok (l := [(178, cpHd), (258, kpHd), (222, ct_fn)]) (And.intro (CKI_up cpHd_ok (by decide)) (And.intro (CKI_up kpHd_ok (by decide)) (And.intro (CKI_up fn_ok (by decide)) trivial)))) (mo_X11_fund rfl _) x1_231
theorem x1_232 : xctr kd0 sh0 rt0 bd0 un0 PR1 MT0 (ctL [(178, cpHd), (258, kpHd), (224, ct_tn)]) 8 md_232 ct_232 = true := by decide +kernel
theorem g1_232 {Ev : Env9} {v u v' u' : Nat → Int} : CKI (Inv1 v u v' u') Ev 69 (327, ct_232) := xctr_ok hu0 hang_1 hR9 hMT9 (b := 60) (ctI_ok (l := [(178, cpHd), (258, kpHd), (224, ct_tn)]) (And.intro (CKI_up cpHd_ok (by decide)) (And.intro (CKI_up kpHd_ok (by decide)) (And.intro (CKI_up tn_ok (by decide)) trivial)))) (mo_X11_train rfl _) x1_232
