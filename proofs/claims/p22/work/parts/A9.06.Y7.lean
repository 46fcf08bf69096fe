/-! the program under the money's invariants: fair, days, the face -/
theorem wf_ct_87 : wfreem ct_87 = true := by decide +kernel
theorem wf_ct_88 : wfreem ct_88 = true := by decide +kernel
theorem wf_ct_89 : wfreem ct_89 = true := by decide +kernel
theorem wf_ct_92 : wfreem ct_92 = true := by decide +kernel
noncomputable def fa7 : Ctr := ([(1, 440, 0), (1, 7, 0)], ct_95.2)
theorem x1_95_7 : xctr kd0 sh0 rt0 bd0 un0 PR1m MT0 (ctL [(31, ct_87), (32, ct_88), (34, ct_89), (35, ct_92), (38, sg7)]) 8 md_95 fa7 = true := by decide +kernel
theorem g1_95_7 {Ev : Env9} {v u v' u' : Nat → Int} : CKI (Inv1m v u v' u') Ev 36 (30, fa7) := xctr_ok hu0 hang_1m hR9 hMT9 (b := 27) (ctI_ok (l := [(31, ct_87), (32, ct_88), (34, ct_89), (35, ct_92), (38, sg7)]) (And.intro (CKI_up (show CKI (Inv1m v u v' u') Ev _ (31, ct_87) from (fun k hk => lift1m (cc_87 k hk) wf_ct_87)) (by decide)) (And.intro (CKI_up (show CKI (Inv1m v u v' u') Ev _ (32, ct_88) from (fun k hk => lift1m (cc_88 k hk) wf_ct_88)) (by decide)) (And.intro (CKI_up (show CKI (Inv1m v u v' u') Ev _ (34, ct_89) from (fun k hk => lift1m (cc_89 k hk) wf_ct_89)) (by decide)) (And.intro (CKI_up (show CKI (Inv1m v u v' u') Ev _ (35, ct_92) from (fun k hk => lift1m (cc_92 k hk) wf_ct_92)) (by decide)) (And.intro (CKI_up sg7_ok (by decide)) trivial)))))) (mo_X5_hold rfl _) x1_95_7
noncomputable def de7 : Ctr := ([(1, 7, 0), (0, (-2147483648), 2147483647)], ct_101.2)
theorem x1_101_7 : xctr kd0 sh0 rt0 bd0 un0 PR1m MT0 (ctL [(86, ec7)]) 8 md_101 de7 = true := by decide +kernel
theorem g1_101_7 {Ev : Env9} {v u v' u' : Nat → Int} : CKI (Inv1m v u v' u') Ev 18 (91, de7) := xctr_ok hu0 hang_1m hR9 hMT9 (b := 9) (ctI_ok (l := [(86, ec7)]) (And.intro (CKI_up ec7_ok (by decide)) trivial)) (mo_X9_desert rfl _) x1_101_7
noncomputable def es7 : Ctr := ([(1, 7, 0)], ct_102.2)
theorem x1_102_7 : xctr kd0 sh0 rt0 bd0 un0 PR1m MT0 (ctL [(86, ec7)]) 8 md_102 es7 = true := by decide +kernel
theorem g1_102_7 {Ev : Env9} {v u v' u' : Nat → Int} : CKI (Inv1m v u v' u') Ev 18 (87, es7) := xctr_ok hu0 hang_1m hR9 hMT9 (b := 9) (ctI_ok (l := [(86, ec7)]) (And.intro (CKI_up ec7_ok (by decide)) trivial)) (mo_X9_endSeason rfl _) x1_102_7
theorem wf_ct_54 : wfreem ct_54 = true := by decide +kernel
noncomputable def da7 : Ctr := ([(1, 0, 0), (1, 7, 0), (0, 0, 1800)], ct_103.2)
theorem x1_103_7 : xctr kd0 sh0 rt0 bd0 un0 PR1m MT0 (ctL [(335, ct_54), (30, fa7), (88, wk7), (91, de7), (87, es7)]) 8 md_103 da7 = true := by decide +kernel
theorem g1_103_7 {Ev : Env9} {v u v' u' : Nat → Int} : CKI (Inv1m v u v' u') Ev 45 (169, da7) := xctr_ok hu0 hang_1m hR9 hMT9 (b := 36) (ctI_ok (l := [(335, ct_54), (30, fa7), (88, wk7), (91, de7), (87, es7)]) (And.intro (CKI_up (show CKI (Inv1m v u v' u') Ev _ (335, ct_54) from (fun k hk => lift1m (hh_54 k hk) wf_ct_54)) (by decide)) (And.intro (CKI_up g1_95_7 (by decide)) (And.intro (CKI_up wk7_ok (by decide)) (And.intro (CKI_up g1_101_7 (by decide)) (And.intro (CKI_up g1_102_7 (by decide)) trivial)))))) (mo_X10_letDaysPass rfl _) x1_103_7
noncomputable def fa46 : Ctr := ([(1, 440, 0), (1, 46, 0)], ct_95.2)
theorem x1_95_46 : xctr kd0 sh0 rt0 bd0 un0 PR1m MT0 (ctL [(31, ct_87), (32, ct_88), (34, ct_89), (35, ct_92), (38, sg46)]) 8 md_95 fa46 = true := by decide +kernel
theorem g1_95_46 {Ev : Env9} {v u v' u' : Nat → Int} : CKI (Inv1m v u v' u') Ev 36 (30, fa46) := xctr_ok hu0 hang_1m hR9 hMT9 (b := 27) (ctI_ok (l := [(31, ct_87), (32, ct_88), (34, ct_89), (35, ct_92), (38, sg46)]) (And.intro (CKI_up (show CKI (Inv1m v u v' u') Ev _ (31, ct_87) from (fun k hk => lift1m (cc_87 k hk) wf_ct_87)) (by decide)) (And.intro (CKI_up (show CKI (Inv1m v u v' u') Ev _ (32, ct_88) from (fun k hk => lift1m (cc_88 k hk) wf_ct_88)) (by decide)) (And.intro (CKI_up (show CKI (Inv1m v u v' u') Ev _ (34, ct_89) from (fun k hk => lift1m (cc_89 k hk) wf_ct_89)) (by decide)) (And.intro (CKI_up (show CKI (Inv1m v u v' u') Ev _ (35, ct_92) from (fun k hk => lift1m (cc_92 k hk) wf_ct_92)) (by decide)) (And.intro (CKI_up sg46_ok (by decide)) trivial)))))) (mo_X5_hold rfl _) x1_95_46
noncomputable def de46 : Ctr := ([(1, 46, 0), (0, (-2147483648), 2147483647)], ct_101.2)
theorem x1_101_46 : xctr kd0 sh0 rt0 bd0 un0 PR1m MT0 (ctL [(86, ec46)]) 8 md_101 de46 = true := by decide +kernel
theorem g1_101_46 {Ev : Env9} {v u v' u' : Nat → Int} : CKI (Inv1m v u v' u') Ev 18 (91, de46) := xctr_ok hu0 hang_1m hR9 hMT9 (b := 9) (ctI_ok (l := [(86, ec46)]) (And.intro (CKI_up ec46_ok (by decide)) trivial)) (mo_X9_desert rfl _) x1_101_46
noncomputable def es46 : Ctr := ([(1, 46, 0)], ct_102.2)
theorem x1_102_46 : xctr kd0 sh0 rt0 bd0 un0 PR1m MT0 (ctL [(86, ec46)]) 8 md_102 es46 = true := by decide +kernel
theorem g1_102_46 {Ev : Env9} {v u v' u' : Nat → Int} : CKI (Inv1m v u v' u') Ev 18 (87, es46) := xctr_ok hu0 hang_1m hR9 hMT9 (b := 9) (ctI_ok (l := [(86, ec46)]) (And.intro (CKI_up ec46_ok (by decide)) trivial)) (mo_X9_endSeason rfl _) x1_102_46
noncomputable def da46 : Ctr := ([(1, 0, 0), (1, 46, 0), (0, 0, 1800)], ct_103.2)
theorem x1_103_46 : xctr kd0 sh0 rt0 bd0 un0 PR1m MT0 (ctL [(335, ct_54), (30, fa46), (88, wk46), (91, de46), (87, es46)]) 8 md_103 da46 = true := by decide +kernel
theorem g1_103_46 {Ev : Env9} {v u v' u' : Nat → Int} : CKI (Inv1m v u v' u') Ev 45 (169, da46) := xctr_ok hu0 hang_1m hR9 hMT9 (b := 36) (ctI_ok (l := [(335, ct_54), (30, fa46), (88, wk46), (91, de46), (87, es46)]) (And.intro (CKI_up (show CKI (Inv1m v u v' u') Ev _ (335, ct_54) from (fun k hk => lift1m (hh_54 k hk) wf_ct_54)) (by decide)) (And.intro (CKI_up g1_95_46 (by decide)) (And.intro (CKI_up wk46_ok (by decide)) (And.intro (CKI_up g1_101_46 (by decide)) (And.intro (CKI_up g1_102_46 (by decide)) trivial)))))) (mo_X10_letDaysPass rfl _) x1_103_46
theorem x1_96m : xctr kd0 sh0 rt0 bd0 un0 PR1m MT0 (ctL [(70, cp46m), (30, fa46)]) 8 md_96 ct_96 = true := by decide +kernel
theorem g1_96m {Ev : Env9} {v u v' u' : Nat → Int} : CKI (Inv1m v u v' u') Ev 45 (131, ct_96) := xctr_ok hu0 hang_1m hR9 hMT9 (b := 36) (ctI_ok (l := [(70, cp46m), (30, fa46)]) (And.intro (CKI_up cp46_okm (by decide)) (And.intro (CKI_up g1_95_46 (by decide)) trivial))) (mo_X10_fairResult rfl _) x1_96m
theorem x1_104m : xctr kd0 sh0 rt0 bd0 un0 PR1m MT0 (ctL [(70, cp46m), (169, da46)]) 8 md_104 ct_104 = true := by decide +kernel
theorem g1_104m {Ev : Env9} {v u v' u' : Nat → Int} : CKI (Inv1m v u v' u') Ev 54 (132, ct_104) := xctr_ok hu0 hang_1m hR9 hMT9 (b := 45) (ctI_ok (l := [(70, cp46m), (169, da46)]) (And.intro (CKI_up cp46_okm (by decide)) (And.intro (CKI_up g1_103_46 (by decide)) trivial))) (mo_X10_savingsAfter rfl _) x1_104m
theorem x1_105m : xctr kd0 sh0 rt0 bd0 un0 PR1m MT0 (ctL [(70, cp46m), (169, da46)]) 8 md_105 ct_105 = true := by decide +kernel
theorem g1_105m {Ev : Env9} {v u v' u' : Nat → Int} : CKI (Inv1m v u v' u') Ev 54 (133, ct_105) := xctr_ok hu0 hang_1m hR9 hMT9 (b := 45) (ctI_ok (l := [(70, cp46m), (169, da46)]) (And.intro (CKI_up cp46_okm (by decide)) (And.intro (CKI_up g1_103_46 (by decide)) trivial))) (mo_X10_purseAfter rfl _) x1_105m
theorem x1_106m : xctr kd0 sh0 rt0 bd0 un0 PR1m MT0 (ctL [(70, cp46m), (169, da46)]) 8 md_106 ct_106 = true := by decide +kernel
theorem g1_106m {Ev : Env9} {v u v' u' : Nat → Int} : CKI (Inv1m v u v' u') Ev 54 (134, ct_106) := xctr_ok hu0 hang_1m hR9 hMT9 (b := 45) (ctI_ok (l := [(70, cp46m), (169, da46)]) (And.intro (CKI_up cp46_okm (by decide)) (And.intro (CKI_up g1_103_46 (by decide)) trivial))) (mo_X10_desertsIn rfl _) x1_106m
theorem x1_107m : xctr kd0 sh0 rt0 bd0 un0 PR1m MT0 (ctL [(70, cp46m), (30, fa46)]) 8 md_107 ct_107 = true := by decide +kernel
theorem g1_107m {Ev : Env9} {v u v' u' : Nat → Int} : CKI (Inv1m v u v' u') Ev 45 (135, ct_107) := xctr_ok hu0 hang_1m hR9 hMT9 (b := 36) (ctI_ok (l := [(70, cp46m), (30, fa46)]) (And.intro (CKI_up cp46_okm (by decide)) (And.intro (CKI_up g1_95_46 (by decide)) trivial))) (mo_X10_leastWage rfl _) x1_107m
theorem x1_127m : xctr kd0 sh0 rt0 bd0 un0 PR1m MT0 (ctL [(169, da7), (27, cpPum)]) 8 md_127 ct_127 = true := by decide +kernel
theorem g1_127m {Ev : Env9} {v u v' u' : Nat → Int} : CKI (Inv1m v u v' u') Ev 54 (149, ct_127) := xctr_ok hu0 hang_1m hR9 hMT9 (b := 45) (ctI_ok (l := [(169, da7), (27, cpPum)]) (And.intro (CKI_up g1_103_7 (by decide)) (And.intro (CKI_up push_okm (by decide)) trivial))) (mo_X10_passDays rfl _) x1_127m
theorem x1_128m : xctr kd0 sh0 rt0 bd0 un0 PR1m MT0 (ctL [(30, fa7), (27, cpPum)]) 8 md_128 ct_128 = true := by decide +kernel
theorem g1_128m {Ev : Env9} {v u v' u' : Nat → Int} : CKI (Inv1m v u v' u') Ev 45 (150, ct_128) := xctr_ok hu0 hang_1m hR9 hMT9 (b := 36) (ctI_ok (l := [(30, fa7), (27, cpPum)]) (And.intro (CKI_up g1_95_7 (by decide)) (And.intro (CKI_up push_okm (by decide)) trivial))) (mo_X10_holdFair rfl _) x1_128m
theorem wf_ct_72m : wfreem ct_72 = true := by decide +kernel
theorem wf_ct_108m : wfreem ct_108 = true := by decide +kernel
theorem x1_129m : xctr kd0 sh0 rt0 bd0 un0 PR1m MT0 (ctL [(73, ct_72), (84, ct_108), (27, cpPum)]) 8 md_129 ct_129 = true := by decide +kernel
theorem g1_129m {Ev : Env9} {v u v' u' : Nat → Int} : CKI (Inv1m v u v' u') Ev 27 (151, ct_129) := xctr_ok hu0 hang_1m hR9 hMT9 (b := 18) (ctI_ok (l := [(73, ct_72), (84, ct_108), (27, cpPum)]) (And.intro (CKI_up (show CKI (Inv1m v u v' u') Ev _ (73, ct_72) from (fun k hk => lift1m (cc_72 k hk) wf_ct_72m)) (by decide)) (And.intro (CKI_up (show CKI (Inv1m v u v' u') Ev _ (84, ct_108) from (fun k hk => lift1m (cc_108 k hk) wf_ct_108m)) (by decide)) (And.intro (CKI_up push_okm (by decide)) trivial)))) (mo_X10_test rfl _) x1_129m
theorem x1_130m : xctr kd0 sh0 rt0 bd0 un0 PR1m MT0 (ctL [(86, ec7), (27, cpPum)]) 8 md_130 ct_130 = true := by decide +kernel
theorem g1_130m {Ev : Env9} {v u v' u' : Nat → Int} : CKI (Inv1m v u v' u') Ev 27 (152, ct_130) := xctr_ok hu0 hang_1m hR9 hMT9 (b := 18) (ctI_ok (l := [(86, ec7), (27, cpPum)]) (And.intro (CKI_up ec7_ok (by decide)) (And.intro (CKI_up push_okm (by decide)) trivial))) (mo_X10_dismiss rfl _) x1_130m
theorem x1_131m : xctr kd0 sh0 rt0 bd0 un0 PR1m MT0 (ctL [(27, cpPum)]) 8 md_131 ct_131 = true := by decide +kernel
theorem g1_131m {Ev : Env9} {v u v' u' : Nat → Int} : CKI (Inv1m v u v' u') Ev 27 (153, ct_131) := xctr_ok hu0 hang_1m hR9 hMT9 (b := 18) (ctI_ok (l := [(27, cpPum)]) (And.intro (CKI_up push_okm (by decide)) trivial)) (mo_X10_setWage rfl _) x1_131m
theorem x1_135m : xctr kd0 sh0 rt0 bd0 un0 PR1m MT0 (ctL [(28, cpPom)]) 8 md_135 ct_135 = true := by decide +kernel
theorem g1_135m {Ev : Env9} {v u v' u' : Nat → Int} : CKI (Inv1m v u v' u') Ev 27 (156, ct_135) := xctr_ok hu0 hang_1m hR9 hMT9 (b := 18) (ctI_ok (l := [(28, cpPom)]) (And.intro (CKI_up pop_okm (by decide)) trivial)) (mo_X10_undo rfl _) x1_135m
theorem x1_136 : xctr kd0 sh0 rt0 bd0 un0 PR1m MT0 (ctL [(70, cp87)]) 8 md_136 ct_136 = true := by decide +kernel
theorem g1_136 {Ev : Env9} {v u v' u' : Nat → Int} : CKI (Inv1m v u v' u') Ev 18 (157, ct_136) := xctr_ok hu0 hang_1m hR9 hMT9 (b := 9) (ctI_ok (l := [(70, cp87)]) (And.intro (CKI_up cp87_ok (by decide)) trivial)) (mo_X10_save rfl _) x1_136
theorem x1_137 : xctr kd0 sh0 rt0 bd0 un0 PR1m MT0 (ctL [(70, cp78)]) 8 md_137 ct_137 = true := by decide +kernel
theorem g1_137 {Ev : Env9} {v u v' u' : Nat → Int} : CKI (Inv1m v u v' u') Ev 18 (158, ct_137) := xctr_ok hu0 hang_1m hR9 hMT9 (b := 9) (ctI_ok (l := [(70, cp78)]) (And.intro (CKI_up cp78_ok (by decide)) trivial)) (mo_X10_restore rfl _) x1_137
/-! fund, train: which valleys, which echoes are there -/
noncomputable def exP (ex : List Fct) (l : List Pst) : List Pst := l.map (fun p => (p.1, p.2.1, ex ++ p.2.2.1, p.2.2.2))
theorem ctr_view3 {Ev : Env9} {y D b : Nat} {ct : Ctr} {args : List APt} {pre ex : List Fct} {Inv : Mem → Prop} (h : ∀ k, b ≤ k → CtrOK kd0 sh0 rt0 bd0 Inv0 Ev (runM k) y ct) (hb : D + 5 ≤ b) (hct : ∀ vs, asOK kd0 args vs → asOK kd0 ct.1 vs ∧ WL vs) (hp : ∀ M, PrFa kd0 [] pre M → PrFa kd0 [] ct.2.1 M) (hs : ct.2.2.1 = []) (hI0 : ∀ M, Inv M → Inv0 M) (hJ : ∀ vs M, asOK kd0 args vs → PrFa kd0 [] pre M → TI kd0 sh0 rt0 bd0 M → Inv M → ∃ e0 v0 g, vM MT0 D y vs (rN M) = some (e0, v0, g) ∧ ∀ M', TI kd0 sh0 rt0 bd0 M' → Inv0 M' → (∀ k, k < 466 → ∀ i, rN M' k i = g k i) → (∀ k : Nat, k < 466 → ∀ i : Nat, inW ct.2.2.2.1 (kd0 k) i = false → rdI M' k i = rdI M k i) → Inv M' ∧ PrFa kd0 [] ex M') : ∀ k, b ≤ k → CtrOK kd0 sh0 rt0 bd0 Inv Ev (runM k) y (args, pre, [], ct.2.2.2.1, exP ex ct.2.2.2.2) := by
  intro k hk vs M h1 h2 h3 hT hInv
  obtain ⟨hc1, hc2⟩ := hct vs h1
  obtain ⟨r, e, r1, r2, r3, r4, r5, p, p1, p2⟩ := h k hk vs M hc1 (hp M h2) (by rw [hs]; intro q hq; cases hq) hT (hI0 M hInv)
  obtain ⟨e0, v0, g, hv, hg⟩ := hJ vs M h1 h2 hT hInv
  obtain ⟨v', S', L', M'', z', e', hv', -, hf⟩ := vM_ok (E := Ev) D k (by omega) y vs (rN M) M (e0, v0, g) hc2 (TS_of hT) (fun _ _ _ => rfl) hv
  have e2 : some [r] = some [(e0, Ev, v', S', L', M'', 466, z')] := e.symm.trans e'
  injection e2 with e3
  injection e3 with e4
  subst e4
  obtain ⟨g1, g2⟩ := hg _ r3 r4 hf r5
  exact ⟨_, e, r1, r2, r3, g1, r5, (p.1, p.2.1, ex ++ p.2.2.1, p.2.2.2), List.mem_map.mpr ⟨p, p1, rfl⟩, p2.1, p2.2.1, prFa_app (l := ex) g2 p2.2.2.1, p2.2.2.2⟩
theorem as0 {M : Mem} : PrFa kd0 [] [] M := fun a ha => by cases ha
theorem as4 {a : Nat} {lo hi lo2 hi2 : Int} {vs : List AV} (h : asOK kd0 [(1, (a : Int), 0), (0, lo, hi), (0, lo2, hi2)] vs) : ∃ x y, vs = [vR a, vI x, vI y] ∧ (x < 4294967296 ∧ lo ≤ sg x ∧ sg x ≤ hi) ∧ y < 4294967296 ∧ lo2 ≤ sg y ∧ sg y ≤ hi2 := by
  obtain ⟨w, t, rfl, h1, h5⟩ := as_c h
  obtain ⟨y, t, rfl, h2, h6⟩ := as_c h5
  obtain ⟨z, t, rfl, h3, h7⟩ := as_c h6
  have e1 : w = vR a := h1.1
  obtain ⟨x, rfl, h2⟩ := h2
  obtain ⟨x', rfl, h3⟩ := h3
  exact ⟨x, x', by rw [e1, as_n h7], h2, h3⟩
/-- push, and what is known of a count of world 7 -/
noncomputable def cpPuV (i : Nat) (lo hi : Int) : Ctr := ([(1, 126, 0), (1, 7, 0)], [f8 7 i lo hi], [], ct_126.2.2.2.1, exP [f8 7 i lo hi] ct_126.2.2.2.2)
theorem rn7 {M : Mem} (hT : TI kd0 sh0 rt0 bd0 M) {i : Nat} (hi : i = 2 ∨ i = 3) : rdI M 7 i = sg (rN M 7 i) ∧ rN M 7 i < 4294967296 := rn_W hT (show 7 ∈ W9m by decide) (Or.inl ⟨rfl, by omega⟩)
theorem pushV_ok {Ev : Env9} {v u v' u' : Nat → Int} {i : Nat} {lo hi : Int} (hi9 : i = 2 ∨ i = 3) : CKI (Inv1m v u v' u') Ev 18 (27, cpPuV i lo hi) := by
  refine ctr_view3 (D := 3) (b := 18) (pre := [f8 7 i lo hi]) (ex := [f8 7 i lo hi]) (cc_126 (Ev := Ev)) (by decide) (fun vs h => ?_) (fun M _ => as0) rfl (fun M h => h.1) (fun vs M h1 hp hT hI => ?_)
  · obtain rfl := as2 (a := 126) (b := 7) h
    exact ⟨⟨⟨rfl, by decide⟩, ⟨7, rfl, by decide, by decide +kernel⟩, trivial⟩, wl2m⟩
  · obtain rfl := as2 (a := 126) (b := 7) h1
    obtain ⟨k2, k3, -⟩ := bd_W hT (show 7 ∈ W9m by decide)
    obtain ⟨n8, c8⟩ := cntHm hT
    obtain ⟨g1, g, e, hc, hg, -, -⟩ := v_pushSm (D := 0) n8 (f0 := rN M) c8 k2 k3
    rw [vup_id rfl] at e hc
    have f0 := fact_at hp (c := 7) (i := i) (lo := lo) (hi := hi) List.mem_cons_self
    refine ⟨_, _, g, e, fun M' hT' hI' hf hW => ⟨⟨hI', JC_view (A := 128 + 39 * rN M 126 1) (g := g1) (WB_9 _ (W9_sm n8)) hT hT' (fun k hk h9 i => (hf k hk i).trans (hg k i h9)) (fun a b q _ => hc.2.2.2 a b q) hI.2.1 (fun _ => MB_cp hc (MB_rn hT (show 7 ∈ WB by decide) hI.2.1)), JR_nr n4_126m hW hI.2.2⟩, ?_⟩⟩
    have e9 : rdI M' 7 i = rdI M 7 i := by
      rw [(rn7 hT' hi9).1, (rn7 hT hi9).1, hf 7 (by decide) i, hg 7 i (by decide), hc.2.2.2 7 i (Or.inl (by omega))]
    exact prFa_1 (c := 7) (i := i) (by decide) (by rw [e9]; exact f0.1) (by rw [e9]; exact f0.2)
noncomputable def pmB (w : Nat) : Ctr := ([(1, 7, 0), (0, (w : Int), (w : Int)), (0, 1, 999)], [], [], [(6, 4, 4), (4, 9, 9)], [((1, 0), (1, 0, 0), [], [])])
noncomputable def teB (e : Nat) : Ctr := ([(1, 7, 0), (0, (e : Int), (e : Int))], [], [], [(5, 2, 2), (5, 5, 5), (4, 10, 10)], [((1, 0), (1, 0, 0), [], [])])
theorem x0_pm : allN 8 (fun w => xctr kd0 sh0 rt0 bd0 un0 PR0 MT0 CT9 2 (3, nb_X9_putMoney, []) (pmB w)) = true := by decide +kernel
theorem x0_te : allN 12 (fun e => xctr kd0 sh0 rt0 bd0 un0 PR0 MT0 CT9 2 (3, nb_X9_teach, []) (teB e)) = true := by decide +kernel
theorem pmB_ok {Ev : Env9} {w : Nat} (hw : w < 8) : CK Ev 9 (92, pmB w) := fun k hk => xctr_ok hu0 hang_0 hR9 hMT9 (b := 0) (ctL_ok (l := []) trivial) (mo_X9_putMoney rfl _) (allN_ok x0_pm w hw) k (by omega)
theorem teB_ok {Ev : Env9} {e : Nat} (he : e < 12) : CK Ev 9 (93, teB e) := fun k hk => xctr_ok hu0 hang_0 hR9 hMT9 (b := 0) (ctL_ok (l := []) trivial) (mo_X9_teach rfl _) (allN_ok x0_te e he) k (by omega)
noncomputable def pm (w : Nat) : Ctr := ([(1, 7, 0), (0, (w : Int), (w : Int)), (0, 1, 999)], [f8 7 3 ((w : Int) + 1) 8], [], [(6, 4, 4), (4, 9, 9)], exP [] [((1, 0), (1, 0, 0), [], [])])
noncomputable def te (e : Nat) : Ctr := ([(1, 7, 0), (0, (e : Int), (e : Int))], [f8 7 2 ((e : Int) + 1) 12], [], [(5, 2, 2), (5, 5, 5), (4, 10, 10)], exP [] [((1, 0), (1, 0, 0), [], [])])
theorem n4_pm : allN 8 (fun w => nRow (pmB w)) = true := by decide +kernel
theorem n4_te : allN 12 (fun e => nRow (teB e)) = true := by decide +kernel
theorem sg_at {x w : Nat} (hx : x < 4294967296) (hw : w < 100) (h1 : (w : Int) ≤ sg x) (h2 : sg x ≤ (w : Int)) : x = w := by
  unfold sg bi at h1 h2
  omega
theorem pm_ok {Ev : Env9} {v u v' u' : Nat → Int} {w : Nat} (hw : w < 8) : CKI (Inv1m v u v' u') Ev 9 (92, pm w) := by
  refine ctr_view3 (D := 1) (b := 9) (ct := pmB w) (ex := []) (pmB_ok (Ev := Ev) hw) (by decide) (fun vs h => ?_) (fun M _ => as0) rfl (fun M h => h.1) (fun vs M h1 hp hT hI => ?_)
  · refine ⟨h, ?_⟩
    obtain ⟨x, y, rfl, hx, hy⟩ := as4 (a := 7) h
    exact wl_k (v := vR 7) trivial (wl_k (v := vI x) hx.1 (wl_k (v := vI y) hy.1 vwl_0))
  · obtain ⟨x, y, rfl, hx, hy⟩ := as4 (a := 7) h1
    obtain rfl := sg_at hx.1 (by omega) hx.2.1 hx.2.2
    have f0 := fact_at hp (c := 7) (i := 3) (lo := (x : Int) + 1) (hi := 8) List.mem_cons_self
    obtain ⟨m1, m2, m3, m4⟩ := MB_rn hT (show 7 ∈ WB by decide) hI.2.1
    have f3 := f0.1
    rw [(rn7 hT (Or.inr rfl)).1, sg_eq (by omega)] at f3
    obtain ⟨b1, b2⟩ := pu_R (v := x) (x := y) (f := rN M) (by omega) m2 m1
    refine ⟨_, _, _, v_putMoney (D := 0) hw, fun M' hT' hI' hf hW => ⟨⟨hI', JC_view (A := 7) (by decide) hT hT' (fun k hk _ i => hf k hk i) (fun a b q _ => b2 a b (by omega)) hI.2.1 (fun _ => ⟨?_, ?_, b1 m3, ?_⟩), JR_nr (allN_ok n4_pm x hw) hW hI.2.2⟩, as0⟩⟩
    · rw [b2 7 2 (by omega)]; exact m1
    · rw [b2 7 3 (by omega)]; exact m2
    · intro w' hw'
      rw [b2 7 3 (by omega)] at hw'
      rw [b2 (7 + 15 + 3 * w') 6 (by omega), b2 7 2 (by omega)]
      refine ⟨(m4 w' hw').1, fun i hi => ?_⟩
      rw [b2 (7 + 16 + 3 * w') i (by have := (m4 w' hw').1; omega)]
      exact (m4 w' hw').2 i hi
theorem te_ok {Ev : Env9} {v u v' u' : Nat → Int} {e : Nat} (he : e < 12) : CKI (Inv1m v u v' u') Ev 9 (93, te e) := by
  refine ctr_view3 (D := 2) (b := 9) (ct := teB e) (ex := []) (teB_ok (Ev := Ev) he) (by decide) (fun vs h => ?_) (fun M _ => as0) rfl (fun M h => h.1) (fun vs M h1 hp hT hI => ?_)
  · refine ⟨h, ?_⟩
    obtain ⟨x, rfl, hx, -⟩ := as3 (a := 7) h
    exact wl_k (v := vR 7) trivial (wl_k (v := vI x) hx vwl_0)
  · obtain ⟨x, rfl, hx, hx2, hx3⟩ := as3 (a := 7) h1
    obtain rfl := sg_at hx (by omega) hx2 hx3
    have f0 := fact_at hp (c := 7) (i := 2) (lo := (x : Int) + 1) (hi := 12) List.mem_cons_self
    obtain ⟨m1, m2, m3, m4⟩ := MB_rn hT (show 7 ∈ WB by decide) hI.2.1
    have f3 := f0.1
    rw [(rn7 hT (Or.inl rfl)).1, sg_eq (by omega)] at f3
    obtain ⟨b1, b2⟩ := te_R (e := x) (p := g_imul 10 (rN M (10 + x) 2)) (f := rN M) (by omega) m1 m2
    refine ⟨_, _, _, v_teach (D := 0) he, fun M' hT' hI' hf hW => ⟨⟨hI', JC_view (A := 7) (by decide) hT hT' (fun k hk _ i => hf k hk i) (fun a b q _ => b2 a b (by omega)) hI.2.1 (fun _ => ⟨?_, ?_, b1 m3, ?_⟩), JR_nr (allN_ok n4_te x he) hW hI.2.2⟩, as0⟩⟩
    · rw [b2 7 2 (by omega)]; exact m1
    · rw [b2 7 3 (by omega)]; exact m2
    · intro w' hw'
      rw [b2 7 3 (by omega)] at hw'
      rw [b2 (7 + 15 + 3 * w') 6 (by omega), b2 7 2 (by omega)]
      refine ⟨(m4 w' hw').1, fun i hi => ?_⟩
      rw [b2 (7 + 16 + 3 * w') i (by have := (m4 w' hw').1; omega)]
      exact (m4 w' hw').2 i hi
noncomputable def cq132 (lo hi : Int) : Ctr := ([(1, 0, 0), (0, lo, hi), (0, (-2147483648), 2147483647)], ct_132.2)
theorem x1_132m : allN 8 (fun w => xctr kd0 sh0 rt0 bd0 un0 PR1m MT0 (ctL [(27, cpPuV 3 ((w : Int) + 1) 8), (92, pm w)]) 8 md_132 (cq132 (w : Int) (w : Int))) = true := by decide +kernel
theorem x1_132a : xctr kd0 sh0 rt0 bd0 un0 PR1m MT0 CT9 8 md_132 (cq132 (-2147483648) (-1)) = true := by decide +kernel
theorem x1_132b : xctr kd0 sh0 rt0 bd0 un0 PR1m MT0 CT9 8 md_132 (cq132 8 2147483647) = true := by decide +kernel
theorem g1_132m {Ev : Env9} {v u v' u' : Nat → Int} : CKI (Inv1m v u v' u') Ev 27 (154, ct_132) := by
  intro k hk vs M h1 h2 h3 hT hI
  obtain ⟨x, y, rfl, hx, hy⟩ := as4 (a := 0) h1
  by_cases c1 : sg x < 0
  · exact xctr_ok hu0 hang_1m hR9 hMT9 (b := 0) (ctI_ok (Inv := (Inv1m v u v' u')) (Ev := Ev) (l := []) trivial) (mo_X10_fund rfl _) x1_132a k (by omega) [vR 0, vI x, vI y] M ⟨⟨rfl, by decide⟩, ⟨x, rfl, hx.1, hx.2.1, by omega⟩, ⟨y, rfl, hy.1, hy.2.1, hy.2.2⟩, trivial⟩ h2 h3 hT hI
  · by_cases c2 : 8 ≤ sg x
    · exact xctr_ok hu0 hang_1m hR9 hMT9 (b := 0) (ctI_ok (Inv := (Inv1m v u v' u')) (Ev := Ev) (l := []) trivial) (mo_X10_fund rfl _) x1_132b k (by omega) [vR 0, vI x, vI y] M ⟨⟨rfl, by decide⟩, ⟨x, rfl, hx.1, c2, hx.2.2⟩, ⟨y, rfl, hy.1, hy.2.1, hy.2.2⟩, trivial⟩ h2 h3 hT hI
    · obtain ⟨w, hw, hwe⟩ : ∃ w : Nat, w < 8 ∧ sg x = (w : Int) := ⟨(sg x).toNat, by omega, by omega⟩
      exact xctr_ok hu0 hang_1m hR9 hMT9 (b := 18) (ctI_ok (Inv := (Inv1m v u v' u')) (Ev := Ev) (l := [(27, cpPuV 3 ((w : Int) + 1) 8), (92, pm w)]) (And.intro (CKI_up (pushV_ok (Or.inr rfl)) (by decide)) (And.intro (CKI_up (pm_ok hw) (by decide)) trivial))) (mo_X10_fund rfl _) (allN_ok x1_132m w hw) k (by omega) [vR 0, vI x, vI y] M ⟨⟨rfl, by decide⟩, ⟨x, rfl, hx.1, by omega, by omega⟩, ⟨y, rfl, hy.1, hy.2.1, hy.2.2⟩, trivial⟩ h2 h3 hT hI
noncomputable def cq133 (lo hi : Int) : Ctr := ([(1, 0, 0), (0, lo, hi)], ct_133.2)
theorem x1_133m : allN 12 (fun w => xctr kd0 sh0 rt0 bd0 un0 PR1m MT0 (ctL [(27, cpPuV 2 ((w : Int) + 1) 12), (93, te w)]) 8 md_133 (cq133 (w : Int) (w : Int))) = true := by decide +kernel
theorem x1_133a : xctr kd0 sh0 rt0 bd0 un0 PR1m MT0 CT9 8 md_133 (cq133 (-2147483648) (-1)) = true := by decide +kernel
theorem x1_133b : xctr kd0 sh0 rt0 bd0 un0 PR1m MT0 CT9 8 md_133 (cq133 12 2147483647) = true := by decide +kernel
theorem g1_133m {Ev : Env9} {v u v' u' : Nat → Int} : CKI (Inv1m v u v' u') Ev 27 (155, ct_133) := by
  intro k hk vs M h1 h2 h3 hT hI
  obtain ⟨x, rfl, hx, hx2, hx3⟩ := as3 (a := 0) h1
  by_cases c1 : sg x < 0
  · exact xctr_ok hu0 hang_1m hR9 hMT9 (b := 0) (ctI_ok (Inv := (Inv1m v u v' u')) (Ev := Ev) (l := []) trivial) (mo_X10_train rfl _) x1_133a k (by omega) [vR 0, vI x] M ⟨⟨rfl, by decide⟩, ⟨x, rfl, hx, hx2, by omega⟩, trivial⟩ h2 h3 hT hI
  · by_cases c2 : 12 ≤ sg x
    · exact xctr_ok hu0 hang_1m hR9 hMT9 (b := 0) (ctI_ok (Inv := (Inv1m v u v' u')) (Ev := Ev) (l := []) trivial) (mo_X10_train rfl _) x1_133b k (by omega) [vR 0, vI x] M ⟨⟨rfl, by decide⟩, ⟨x, rfl, hx, c2, hx3⟩, trivial⟩ h2 h3 hT hI
    · obtain ⟨w, hw, hwe⟩ : ∃ w : Nat, w < 12 ∧ sg x = (w : Int) := ⟨(sg x).toNat, by omega, by omega⟩
      exact xctr_ok hu0 hang_1m hR9 hMT9 (b := 18) (ctI_ok (Inv := (Inv1m v u v' u')) (Ev := Ev) (l := [(27, cpPuV 2 ((w : Int) + 1) 12), (93, te w)]) (And.intro (CKI_up (pushV_ok (Or.inl rfl)) (by decide)) (And.intro (CKI_up (te_ok hw) (by decide)) trivial))) (mo_X10_train rfl _) (allN_ok x1_133m w hw) k (by omega) [vR 0, vI x] M ⟨⟨rfl, by decide⟩, ⟨x, rfl, hx, by omega, by omega⟩, trivial⟩ h2 h3 hT hI
