/-! pairs of calls that keep what the two have in common: append, truncate, load, save, restore -/
def Th2 (E : Env9) (y : Nat) (as : List AV) (w : Nat) (bs : List AV) (M : Mem) : Prop := ∃ (x1 x2 : Nat) (S1 L1 : List AV) (M1 : Mem) (z1 : Nat) (S2 L2 : List AV) (M2 : Mem) (z2 : Nat), runM 200 y E 466 as M = some [((0, 0), E, vI x1, S1, L1, M1, 466, z1)] ∧ JI M1 ∧ runM 200 w E 466 bs M1 = some [((0, 0), E, vI x2, S2, L2, M2, 466, z2)] ∧ JI M2 ∧ RJ M2
theorem th2_up {E : Env9} {y w : Nat} {as bs : List AV} {M : Mem} {c1 c2 : Ctr} (hJ : JI M) (hR : RJ M) (g1 : CtrOK kd0 sh0 rt0 bd0 Inv0 E (runM 200) y c1) (l1 : lcJ c1 0 = true) (a1 : asOK kd0 c1.1 as) (w1 : wfree c1 = true) (g2 : CtrOK kd0 sh0 rt0 bd0 Inv0 E (runM 200) w c2) (l2 : lcJ c2 0 = true) (a2 : asOK kd0 c2.1 bs) (w2 : wfree c2 = true) (h : Th3 E y as w bs M) : Th2 E y as w bs M := by
  obtain ⟨x1, x2, S1, L1, M1, z1, S2, L2, M2, z2, e1, J1, e2, J2, R2⟩ := h
  exact ⟨x1, x2, S1, L1, M1, z1, S2, L2, M2, z2, e1, J1, e2, J2, R2, JX_k (KX_fr (kw_fr w2 (kw_run g2 l2 a2 J1 e2))) (JX_k (KX_fr (kw_fr w1 (kw_run g1 l1 a1 hJ e1))) hR.2)⟩
theorem wj_345 : wfree cl_345 = true := by decide +kernel
theorem wj_346 : wfree cl_346 = true := by decide +kernel
theorem wj_147 : wfree ct_147 = true := by decide +kernel
theorem wj_148 : wfree ct_148 = true := by decide +kernel
theorem th2_tru {E : Env9} {M : Mem} (hJ : JI M) (hR : RJ M) {x : Nat} (hx : x < 4294967296) : Th2 E 346 [vR 0, vI x, vR 465] 227 [vR 452, vI x] M :=
  th2_up hJ hR (kl_346 200 (by decide)) lj_346 (show asOK kd0 cl_346.1 [vR 0, vI x, vR 465] from ⟨a0, aFull x hx, a465, trivial⟩) wj_346 (cc_148 200 (by decide)) lj_227 (show asOK kd0 ct_148.1 [vR 452, vI x] from ⟨a452, aFull x hx, trivial⟩) wj_148 (th3_tru hJ hR.1 hx)
theorem th2_app {E : Env9} {M : Mem} (hJ : JI M) (hR : RJ M) {a b c d e : Nat} (ha : a < 4294967296) (hb : b < 4294967296) (hc : c < 4294967296) (hd : d < 4294967296) (he : e < 4294967296) : Th2 E 345 [vR 0, vI a, vI b, vI c, vI d, vI e, vR 465] 226 [vR 452, vI a, vI b, vI c, vI d, vI e] M :=
  th2_up hJ hR (kl_345 200 (by decide)) lj_345 (show asOK kd0 cl_345.1 [vR 0, vI a, vI b, vI c, vI d, vI e, vR 465] from ⟨a0, aFull a ha, aFull b hb, aFull c hc, aFull d hd, aFull e he, a465, trivial⟩) wj_345 (cc_147 200 (by decide)) lj_226 (show asOK kd0 ct_147.1 [vR 452, vI a, vI b, vI c, vI d, vI e] from ⟨a452, aFull a ha, aFull b hb, aFull c hc, aFull d hd, aFull e he, trivial⟩) wj_147 (th3_app hJ hR.1 ha hb hc hd he)
theorem JR_same {v u : Nat → Int} {M M' : Mem} (h3 : ∀ i, i < 627 → rdI M' 453 i = rdI M 453 i) (h4 : ∀ i, i < 627 → rdI M' 454 i = rdI M 454 i) (h7 : ∀ i, rdI M' 457 i = rdI M 457 i) (h5 : rdI M' 452 5 = rdI M 452 5) (h77 : rdI M' 452 7 = rdI M 452 7) (h : JR v u M) : JR v u M' :=
  ⟨fun i hi hs => (h3 (0 + i) (by omega)).trans (h.1 i hi hs), fun q i hi hs => (h4 (0 + i) (by omega)).trans (h.2.1 (by rw [← h77]; exact q) i hi hs), fun n hn q i hi hs => (h7 _).trans (h.2.2 n hn (by rw [← h5]; exact q) i hi hs)⟩
theorem sg9_1 : sg 1 = 1 := sg_eq (show 1 ≤ 2147483647 by decide)
theorem np_252 : noP ctLoad = true := by decide +kernel
theorem np_329 : noP ctSave = true := by decide +kernel
theorem np_330 : noP ctRest = true := by decide +kernel
theorem nc_347 : noC cl_347 = true := by decide +kernel
theorem nc_136 : noC ct_136 = true := by decide +kernel
theorem nc_385 : noC cl_385 = true := by decide +kernel
theorem lj_157 : lcJ ct_136 0 = true := by decide +kernel
theorem lj_329 : lcJ ctSave 0 = true := by decide +kernel
theorem lj_385 : lcJ cl_385 0 = true := by decide +kernel
theorem lj_330 : lcJ ctRest 0 = true := by decide +kernel
theorem nw_252 : noW ctLoad (kd0 454) = true := by decide +kernel
theorem nw_252b : noW ctLoad (kd0 457) = true := by decide +kernel
theorem n7_252 : inW ctLoad.2.2.2.1 (kd0 452) ((7 : Nat) : Int) = false := by decide +kernel
theorem n7_385 : inW cl_385.2.2.2.1 (kd0 452) ((7 : Nat) : Int) = false := by decide +kernel
theorem n0_385 : inW cl_385.2.2.2.1 (kd0 0) ((7 : Nat) : Int) = false := by decide +kernel
theorem n0_330 : inW ctRest.2.2.2.1 (kd0 0) ((7 : Nat) : Int) = false := by decide +kernel
theorem n7_330 : inW ctRest.2.2.2.1 (kd0 452) ((7 : Nat) : Int) = false := by decide +kernel
theorem n0_347 : inW cl_347.2.2.2.1 (kd0 0) ((7 : Nat) : Int) = false := by decide +kernel
theorem n7_347 : inW cl_347.2.2.2.1 (kd0 452) ((7 : Nat) : Int) = false := by decide +kernel
theorem n0_252 : inW ctLoad.2.2.2.1 (kd0 0) ((7 : Nat) : Int) = false := by decide +kernel
/-- load -/
theorem th2_load {E : Env9} {M : Mem} (hJ : JI M) (hR : RJ M) : Th2 E 347 [vR 0, vR 465] 252 [vR 452] M := by
  obtain ⟨v1, S1, L1, M1, z1, e1, ⟨p, p1, -, -, p4⟩, J1, K1⟩ := calG9_of (kl_347 (Ev := E) 200 (by decide)) lj_347 (show asOK kd0 cl_347.1 [vR 0, vR 465] from ⟨a0, a465, trivial⟩) M hJ
  have k1 : KB true false M M1 := kb_of hJ.1 J1.1 (by decide +kernel) (by decide +kernel) (by decide +kernel) (by decide +kernel) K1 p1 p4
  obtain ⟨v2, S2, L2, M2, z2, e2, ⟨q, q1, -, -, q4⟩, J2, K2⟩ := calG9_of (f_load (Ev := E) 200 (by decide)) lj_252 (show asOK kd0 ctLoad.1 [vR 452] from ⟨a452, trivial⟩) M1 J1
  have k2 : KB false true M1 M2 := kb_of J1.1 J2.1 (by decide +kernel) (by decide +kernel) (by decide +kernel) (by decide +kernel) K2 q1 q4
  have hR2 := rb_two hR.1 k1 k2
  obtain ⟨a1, a2⟩ := v_LloadC (D := 186) (txC_M hJ.1)
  obtain ⟨b1, b2⟩ := v_loadR (D := 187) (txR_M hJ.1 hR.1 k1.2.1 k1.2.2.2)
  have w1 : WL [vR 0, vR 465] := wl_k (v := vR 0) trivial wl_1
  obtain ⟨h07, v, u, v', u', hC, hRr, hv, hu⟩ := hR.2
  have hR1 : JR v' u' M1 := JR_fr9 (noC_ok nc_347 K1) hRr
  have s7 : rdI M2 0 7 = rdI M2 452 7 := by rw [K2 0 (by decide) 7 n0_252, K1 0 (by decide) 7 n0_347, h07, K2 452 (by decide) 7 n7_252, K1 452 (by decide) 7 n7_347]
  have x4 : ∀ i, rdI M2 454 i = rdI M1 454 i := fun i => K2 454 (by decide) i (noW_ok nw_252 _)
  have x7 : ∀ i, rdI M2 457 i = rdI M1 457 i := fun i => K2 457 (by decide) i (noW_ok nw_252b _)
  have hPL : (rdI M2 452 6 = 1 ∧ (∀ i, i < 627 → rdI M2 453 i = rdI M1 453 i) ∧ rdI M2 452 5 = rdI M1 452 5) ∨ (rdI M2 452 6 = 0 ∧ rdI M2 452 5 = 0) := by
    obtain ⟨r, er, hr⟩ := f_ldJ (Ev := E) 200 (by decide) [vR 452] M1 (show asOK kd0 ctLoad.1 [vR 452] from ⟨a452, trivial⟩) (of_good (by decide) J1.2.2) J1.1 J1.2.1
    have e3 : some [r] = some [((0, 0), E, v2, S2, L2, M2, 466, z2)] := er.symm.trans e2
    injection e3 with e4
    injection e4 with e5
    subst e5
    exact hr
  by_cases k : (oCfg (bt (rN M))).1.1 = 0
  · obtain ⟨g, u1, g1, g13, g14, g126, g72, g73, hc, hd, hE, hV, hfr, g07⟩ := a1 k
    obtain ⟨h, p', u2, h6, -, -, g0, hRS, h453⟩ := b1 k
    obtain ⟨r1, r2⟩ := vcall (E := E) hJ.1 w1 u1 e1
    obtain ⟨r3, r4⟩ := vcall (E := E) J1.1 wl_1 u2 e2
    have r1 : v1 = vI 0 := r1
    have r3 : v2 = vI (oCfg (bt (rN M))).2.1.1 := r3
    subst r1
    subst r3
    have o1 : ∀ k i, k ≠ 465 → k < 466 → rN M1 k i = g k i := fun k i hk hl => (r2 k hl i).trans (vup_ne (Or.inl hk))
    have e126 : rdI M1 126 2 = 0 := by rw [(rnH J1.1 (Or.inr rfl)).1, o1 126 2 (by decide) (by decide), g126, sgZ0]
    have hC1 : JC (vOf M1 7) u M1 := ⟨StC_vOf M1 7, fun q => StC_cp (cpJ_same (by decide) hJ.1 J1.1 (fun k a b i => (o1 k i (by omega) (by omega)).trans (hfr k i a (by omega) (by omega)))) (hC.2.1 (by rw [← K1 0 (by decide) 7 n0_347]; exact q)), fun s hs q => (LvS_no e126 q).elim⟩
    have hC2 : JC (vOf M1 7) u M2 := JC_lo (noP_ok np_252 K2) hC1
    have e6 : rdI M2 452 6 = 0 := by rw [(rn_6 J2.1).1, r4 452 (by decide) 6, h6, sgZ0]
    have e5 : rdI M2 452 5 = 0 := by
      rcases hPL with ⟨w, -⟩ | ⟨-, w⟩
      · rw [e6] at w
        exact absurd w (by decide)
      · exact w
    have hR3 : JR (fun i => rdI M2 453 i) u' M2 := ⟨fun i hi hs => by rw [Nat.zero_add], fun q i hi hs => (x4 (0 + i)).trans (hR1.2.1 (by rw [← K2 452 (by decide) 7 n7_252]; exact q) i hi hs), fun n hn q => by
      rw [e5] at q
      omega⟩
    obtain ⟨w9, hw9⟩ := sa_453
    have c0 : vOf M1 7 0 = rdI M2 453 0 := by
      show rdI M1 7 2 = rdI M2 453 0
      rw [(rn4 (k := 7) J1.1 (by decide) (kW_ok (show 7 ∈ W9 by decide)).1 (Or.inl rfl)).1, o1 7 2 (by decide) (by decide), g72, (rn_arr (k := 453) (i := 0) J2.1 (by decide) hw9).1, r4 453 (by decide) 0, h453 0, hRS.2.2.2.2.1]
    have c1 : vOf M1 7 1 = rdI M2 453 1 := by
      show rdI M1 7 3 = rdI M2 453 1
      rw [(rn4 (k := 7) J1.1 (by decide) (kW_ok (show 7 ∈ W9 by decide)).1 (Or.inr rfl)).1, o1 7 3 (by decide) (by decide), g73, (rn_arr (k := 453) (i := 1) J2.1 (by decide) hw9).1, r4 453 (by decide) 1, h453 1, hRS.2.2.2.2.2.2.1]
    have d0 : vOf M1 7 0 = ((oCfg (bt (rN M))).2.1.1 : Nat) := by
      show rdI M1 7 2 = _
      rw [(rn4 (k := 7) J1.1 (by decide) (kW_ok (show 7 ∈ W9 by decide)).1 (Or.inl rfl)).1, o1 7 2 (by decide) (by decide), g72, sg_eq (by omega)]
    have d1 : vOf M1 7 1 = ((oCfg (bt (rN M))).2.1.2 : Nat) := by
      show rdI M1 7 3 = _
      rw [(rn4 (k := 7) J1.1 (by decide) (kW_ok (show 7 ∈ W9 by decide)).1 (Or.inr rfl)).1, o1 7 3 (by decide) (by decide), g73, sg_eq (by omega)]
    have kE : ∀ j : Nat, j < 12 → (j : Int) < vOf M1 7 0 → ∀ i : Nat, i = 1 ∨ i = 3 ∨ i = 4 → rdI M1 (7 + 3 + j) i = rdI M2 453 (29 + 15 * j + i) := fun j hj h9 i hi => by
      rw [d0] at h9
      have hj9 : j < (oCfg (bt (rN M))).2.1.1 := by omega
      rw [(rn5 J1.1 (show 7 + 3 + j < 466 by omega) ((kW_ok (show 7 ∈ W9 by decide)).2.1 j hj) hi).1, o1 (7 + 3 + j) i (by omega) (by omega), show 7 + 3 + j = 10 + j by omega, hE j hj9 i (by omega), (rn_arr (k := 453) (i := 29 + 15 * j + i) J2.1 (by decide) hw9).1, r4 453 (by decide), h453, (hRS.2.2.2.2.2.2.2.2.1 j hj9).2 i (by omega) (by omega)]
    have kV : ∀ j : Nat, j < 8 → (j : Int) < vOf M1 7 1 → ∀ i : Nat, i = 1 ∨ i = 2 → rdI M1 (7 + 15 + 3 * j) i = rdI M2 453 (209 + 17 * j + i) := fun j hj h9 i hi => by
      rw [d1] at h9
      have hj9 : j < (oCfg (bt (rN M))).2.1.2 := by omega
      rw [(rn6 J1.1 (show 7 + 15 + 3 * j < 466 by omega) ((kW_ok (show 7 ∈ W9 by decide)).2.2 j hj) hi).1, o1 (7 + 15 + 3 * j) i (by omega) (by omega), show 7 + 15 + 3 * j = 22 + 3 * j by omega, hV j hj9 i (by omega), (rn_arr (k := 453) (i := 209 + 17 * j + i) J2.1 (by decide) hw9).1, r4 453 (by decide), h453, (hRS.2.2.2.2.2.2.2.2.2 j hj9).2 i (by omega) (by omega)]
    have hEq : EqS (vOf M1 7) (fun i => rdI M2 453 i) := ⟨c0, c1, fun j hj h9 => by
      obtain ⟨a, b, c, -⟩ := vOf_e M1 7 j hj
      exact ⟨a.trans ((kE j hj h9 1 (Or.inl rfl)).trans (by rw [show 29 + 15 * j + 1 = 30 + 15 * j by omega])), b.trans ((kE j hj h9 3 (Or.inr (Or.inl rfl))).trans (by rw [show 29 + 15 * j + 3 = 32 + 15 * j by omega])), c.trans ((kE j hj h9 4 (Or.inr (Or.inr rfl))).trans (by rw [show 29 + 15 * j + 4 = 33 + 15 * j by omega]))⟩, fun j hj h9 => by
      obtain ⟨a, b, -⟩ := vOf_v M1 7 j hj
      exact ⟨a.trans ((kV j hj h9 1 (Or.inl rfl)).trans (by rw [show 209 + 17 * j + 1 = 210 + 17 * j by omega])), b.trans ((kV j hj h9 2 (Or.inr rfl)).trans (by rw [show 209 + 17 * j + 2 = 211 + 17 * j by omega]))⟩⟩
    have hw : ∀ i, rN M2 453 i = g0 453 i := fun i => (r4 453 (by decide) i).trans (h453 i)
    have nm : ∀ a x, nmRow g0 a x → x < 9223372036854775808 ∧ nmW (rN M2 453) a x := fun a x hn => by
      obtain ⟨z, U, z1, z6, e0, ek, ex⟩ := hn
      refine ⟨?_, z, U, z1, z6, (hw _).trans e0, fun k hk => ⟨(hw _).trans (ek k hk).1, (ek k hk).2⟩, ex⟩
      rw [ex]
      exact nmr_lt (fun k hk => by rw [Nat.zero_add]; have := (ek k hk).2.2; omega) z6
    have hNm : NmS (vOf M1 7) (fun i => rdI M2 453 i) := ⟨rN M2 453, fun i _ => rn_arr J2.1 (by decide) hw9, fun j hj h9 => by
      rw [d0] at h9
      have hj9 : j < (oCfg (bt (rN M))).2.1.1 := by omega
      obtain ⟨n1, n2⟩ := nm _ _ (hRS.2.2.2.2.2.2.2.2.1 j hj9).1
      refine ⟨_, n1, ?_, n2⟩
      rw [(vOf_e M1 7 j hj).2.2.2, rn5n J1.1 (show 7 + 3 + j < 466 by omega) ((kW_ok (show 7 ∈ W9 by decide)).2.1 j hj), o1 (7 + 3 + j) 0 (by omega) (by omega), show 7 + 3 + j = 10 + j by omega, hE j hj9 0 (by omega)], fun j hj h9 => by
      rw [d1] at h9
      have hj9 : j < (oCfg (bt (rN M))).2.1.2 := by omega
      obtain ⟨n1, n2⟩ := nm _ _ (hRS.2.2.2.2.2.2.2.2.2 j hj9).1
      refine ⟨_, n1, ?_, n2⟩
      rw [(vOf_v M1 7 j hj).2.2, rn6n J1.1 (show 7 + 15 + 3 * j < 466 by omega) ((kW_ok (show 7 ∈ W9 by decide)).2.2 j hj), o1 (7 + 15 + 3 * j) 0 (by omega) (by omega), show 7 + 15 + 3 * j = 22 + 3 * j by omega, hV j hj9 0 (by omega)]⟩
    exact ⟨_, _, S1, L1, M1, z1, S2, L2, M2, z2, e1, J1, e2, J2, hR2, s7, vOf M1 7, u, fun i => rdI M2 453 i, u', hC2, hR3, ⟨hEq, hNm⟩, hu⟩
  · obtain ⟨g, u1, g1, g13, g14, hfr, g07⟩ := a2 k
    obtain ⟨h, u2, h6, -⟩ := b2 k
    obtain ⟨r1, r2⟩ := vcall (E := E) hJ.1 w1 u1 e1
    obtain ⟨r3, r4⟩ := vcall (E := E) J1.1 wl_1 u2 e2
    have r1 : v1 = vI 1 := r1
    have r3 : v2 = vI 0 := r3
    subst r1
    subst r3
    have hC1 : JC v u M1 := JC_same hJ.1 J1.1 (fun k hk i => (r2 k (by omega) i).trans (hfr k i (by omega) (by omega) (by omega) (by omega))) (K1 0 (by decide) 7 n0_347) hC
    have hC2 : JC v u M2 := JC_lo (noP_ok np_252 K2) hC1
    have e6 : rdI M2 452 6 = 1 := by rw [(rn_6 J2.1).1, r4 452 (by decide) 6, h6, sg9_1]
    obtain ⟨y3, y5⟩ : (∀ i, i < 627 → rdI M2 453 i = rdI M1 453 i) ∧ rdI M2 452 5 = rdI M1 452 5 := by
      rcases hPL with ⟨-, w⟩ | ⟨w, -⟩
      · exact w
      · rw [e6] at w
        exact absurd w (by decide)
    exact ⟨_, _, S1, L1, M1, z1, S2, L2, M2, z2, e1, J1, e2, J2, hR2, s7, v, u, v', u', hC2, JR_same y3 (fun i _ => x4 i) x7 y5 (K2 452 (by decide) 7 n7_252) hR1, hv, hu⟩
/-- save -/
theorem th2_save {E : Env9} {M : Mem} (hJ : JI M) (hR : RJ M) : Th2 E 157 [vR 0] 329 [vR 452] M := by
  obtain ⟨v1, S1, L1, M1, z1, e1, ⟨p, p1, -, -, p4⟩, J1, K1⟩ := calG9_of (cc_136 (Ev := E) 200 (by decide)) lj_157 (show asOK kd0 ct_136.1 [vR 0] from ⟨a0, trivial⟩) M hJ
  have k1 : KB false false M M1 := kb_of hJ.1 J1.1 (by decide +kernel) (by decide +kernel) (by decide +kernel) (by decide +kernel) K1 p1 p4
  obtain ⟨v2, S2, L2, M2, z2, e2, ⟨q, q1, -, -, q4⟩, J2, K2⟩ := calG9_of (save_ok (Ev := E) 200 (by decide)) lj_329 (show asOK kd0 ctSave.1 [vR 452] from ⟨a452, trivial⟩) M1 J1
  have k2 : KB false false M1 M2 := kb_of J1.1 J2.1 (by decide +kernel) (by decide +kernel) (by decide +kernel) (by decide +kernel) K2 q1 q4
  have hR2 := rb_two hR.1 k1 k2
  obtain ⟨-, v, u, v', u', hC, hRr, hv, hu⟩ := hR.2
  obtain ⟨⟨n2, -⟩, n3, -⟩ := cnt9 hJ.1 (show 7 ∈ W9 by decide)
  obtain ⟨g, u1, hg⟩ := v_saveC (D := 192) (f := rN M) n2 n3
  obtain ⟨h, u2, h4, ho⟩ := v_saveR (D := 193) (f := rN M1)
  obtain ⟨r1, r2⟩ := vcall (E := E) hJ.1 wl_1 u1 e1
  obtain ⟨r3, r4⟩ := vcall (E := E) J1.1 wl_1 u2 e2
  have r1 : v1 = vI (g 7 4) := r1
  have r3 : v2 = vI (vup h 452 7 1 453 2) := r3
  subst r1
  subst r3
  have o1 : ∀ k i, k ≠ 0 → k < 466 → rN M1 k i = g k i := fun k i hk hl => (r2 k hl i).trans (vup_ne (Or.inl hk))
  have s1 : rdI M1 0 7 = 1 := by
    rw [(rn07 J1.1).1, show rN M1 0 7 = 1 from (r2 0 (by decide) 7).trans vup_eq, sg9_1]
  have ee : ∀ i, i = 1 ∨ i = 2 → rdI M1 126 i = rdI M 126 i := fun i hi => by rw [(rnH J1.1 hi).1, (rnH hJ.1 hi).1, o1 126 i (by decide) (by decide), hg.2.2.2 126 i (Or.inr (by decide))]
  have c7 : CpJ 7 7 M M1 := cpJ_same (by decide) hJ.1 J1.1 (fun k a b i => (o1 k i (by omega) (by omega)).trans (hg.2.2.2 k i (Or.inl (by omega))))
  have c87 : CpJ 87 7 M M1 := cpJ_of2 (by decide) (by decide) hJ.1 J1.1 (fun _ _ => rfl) hg (fun k a b _ i => o1 k i (by omega) (by omega))
  have hC1 : JC v v M1 := ⟨StC_cp c7 hC.1, fun _ => StC_cp c87 hC.1, fun s hs q => StC_cp (cpJ_same (W9_s hs) hJ.1 J1.1 (fun k a b i => (o1 k i (by omega) (by omega)).trans (hg.2.2.2 k i (Or.inr (by omega))))) (hC.2.2 s hs (LvS_same (ee 1 (Or.inl rfl)) (ee 2 (Or.inr rfl)) q))⟩
  have hC2 : JC v v M2 := JC_lo (noP_ok np_329 K2) hC1
  have hR1 : JR v' u' M1 := JR_fr9 (noC_ok nc_136 K1) hRr
  have o2 : ∀ k i, k ≠ 452 → k ≠ 454 → k < 466 → rN M2 k i = rN M1 k i := fun k i hk h9 hl => (r4 k hl i).trans ((vup_ne (Or.inl hk)).trans ((ho k i h9).trans (vup_ne (Or.inl hk))))
  have t4 : ∀ i, i < 627 → rN M2 454 i = rN M1 453 i := fun i hi => (r4 454 (by decide) i).trans ((vup_ne (Or.inl (by decide))).trans (h4 i hi))
  have t5 : rdI M2 452 5 = rdI M1 452 5 := by
    rw [(rnR J2.1 (Or.inl rfl)).1, (rnR J1.1 (Or.inl rfl)).1, show rN M2 452 5 = rN M1 452 5 from (r4 452 (by decide) 5).trans ((vup_ne (Or.inr (by decide))).trans ((ho 452 5 (by decide)).trans (vup_ne (Or.inr (by decide)))))]
  have t7 : rdI M2 452 7 = 1 := by
    rw [(rnR J2.1 (Or.inr rfl)).1, show rN M2 452 7 = 1 from (r4 452 (by decide) 7).trans vup_eq, sg9_1]
  have hR3 : JR v' v' M2 := ⟨fun i hi hs => (rw_eq J1.1 J2.1 (by decide) (by decide) sa_453 sa_453 (o2 453 (0 + i) (by decide) (by decide) (by decide))).trans (hR1.1 i hi hs), fun _ i hi hs => (rw_eq J1.1 J2.1 (by decide) (by decide) sa_454 sa_453 (t4 (0 + i) (by omega))).trans (hR1.1 i hi hs), fun n hn q i hi hs => (rw_eq J1.1 J2.1 (by decide) (by decide) sa_457 sa_457 (o2 457 _ (by decide) (by decide) (by decide))).trans (hR1.2.2 n hn (by rw [← t5]; exact q) i hi hs)⟩
  exact ⟨_, _, S1, L1, M1, z1, S2, L2, M2, z2, e1, J1, e2, J2, hR2, ((noP_ok np_329 K2 0 (by decide) 7 jp_07).trans s1).trans t7.symm, v, v, v', v', hC2, hR3, hv, hv⟩
/-- restore -/
theorem th2_rest {E : Env9} {M : Mem} (hJ : JI M) (hR : RJ M) : Th2 E 385 [vR 0, vR 465] 330 [vR 452] M := by
  obtain ⟨v1, S1, L1, M1, z1, e1, ⟨p, p1, -, -, p4⟩, J1, K1⟩ := calG9_of (kl_385 (Ev := E) 200 (by decide)) lj_385 (show asOK kd0 cl_385.1 [vR 0, vR 465] from ⟨a0, a465, trivial⟩) M hJ
  have k1 : KB false false M M1 := kb_of hJ.1 J1.1 (by decide +kernel) (by decide +kernel) (by decide +kernel) (by decide +kernel) K1 p1 p4
  obtain ⟨v2, S2, L2, M2, z2, e2, ⟨q, q1, -, -, q4⟩, J2, K2⟩ := calG9_of (rest_ok (Ev := E) 200 (by decide)) lj_330 (show asOK kd0 ctRest.1 [vR 452] from ⟨a452, trivial⟩) M1 J1
  have k2 : KB false false M1 M2 := kb_of J1.1 J2.1 (by decide +kernel) (by decide +kernel) (by decide +kernel) (by decide +kernel) K2 q1 q4
  have hR2 := rb_two hR.1 k1 k2
  have w1 : WL [vR 0, vR 465] := wl_k (v := vR 0) trivial wl_1
  obtain ⟨h07, v, u, v', u', hC, hRr, hv, hu⟩ := hR.2
  have hR1 : JR v' u' M1 := JR_fr9 (noC_ok nc_385 K1) hRr
  have s0 : rdI M2 0 7 = rdI M 0 7 := (K2 0 (by decide) 7 n0_330).trans (K1 0 (by decide) 7 n0_385)
  have s1 : rdI M1 452 7 = rdI M 452 7 := K1 452 (by decide) 7 n7_385
  have s2 : rdI M2 452 7 = rdI M1 452 7 := K2 452 (by decide) 7 n7_330
  have s7 : rdI M2 0 7 = rdI M2 452 7 := by rw [s0, h07, s2, s1]
  have e7 : rN M1 452 7 = rN M 0 7 := sg_inj (rnR J1.1 (Or.inr rfl)).2 (rn07 hJ.1).2 (by rw [← (rnR J1.1 (Or.inr rfl)).1, ← (rn07 hJ.1).1, s1, h07])
  by_cases q7 : rN M 0 7 = 1
  · obtain ⟨⟨n2, -⟩, n3, -⟩ := cnt9 hJ.1 (show 87 ∈ W9 by decide)
    obtain ⟨g, u1, hg⟩ := v_Lrest1 (D := 191) (f := rN M) n2 n3 q7
    obtain ⟨h, u2, h3, ho⟩ := v_restR1 (D := 193) (f := rN M1) (e7.trans q7)
    obtain ⟨r1, r2⟩ := vcall (E := E) hJ.1 w1 u1 e1
    obtain ⟨r3, r4⟩ := vcall (E := E) J1.1 wl_1 u2 e2
    have r1 : v1 = vI 0 := r1
    have r3 : v2 = vI (vup h 452 5 0 453 2) := r3
    subst r1
    subst r3
    have o1 : ∀ k i, k ≠ 126 → k ≠ 465 → k < 466 → rN M1 k i = g k i := fun k i h1 h9 hl => (r2 k hl i).trans ((vup_ne (Or.inl h9)).trans (vup_ne (Or.inl h1)))
    have e126 : rdI M1 126 2 = 0 := by
      rw [(rnH J1.1 (Or.inr rfl)).1, show rN M1 126 2 = 0 from (r2 126 (by decide) 2).trans ((vup_ne (Or.inl (by decide))).trans vup_eq), sgZ0]
    have m7 : rdI M 0 7 = 1 := by rw [(rn07 hJ.1).1, q7, sg9_1]
    have c7 : CpJ 7 87 M M1 := cpJ_of2 (by decide) (by decide) hJ.1 J1.1 (fun _ _ => rfl) hg (fun k a b c i => o1 k i c (by omega) (by omega))
    have c87 : CpJ 87 87 M M1 := cpJ_same (by decide) hJ.1 J1.1 (fun k a b i => (o1 k i (by omega) (by omega) (by omega)).trans (hg.2.2.2 k i (Or.inr (by omega))))
    have hs87 : StC u M 87 := hC.2.1 m7
    have hC1 : JC u u M1 := ⟨StC_cp c7 hs87, fun _ => StC_cp c87 hs87, fun s hs q => (LvS_no e126 q).elim⟩
    have hC2 : JC u u M2 := JC_lo (noP_ok np_330 K2) hC1
    have o2 : ∀ k i, k ≠ 452 → k ≠ 453 → k < 466 → rN M2 k i = rN M1 k i := fun k i hk h9 hl => (r4 k hl i).trans ((vup_ne (Or.inl hk)).trans ((ho k i h9).trans (vup_ne (Or.inl hk))))
    have t3 : ∀ i, i < 627 → rN M2 453 i = rN M1 454 i := fun i hi => (r4 453 (by decide) i).trans ((vup_ne (Or.inl (by decide))).trans (h3 i hi))
    have t5 : rdI M2 452 5 = 0 := by
      rw [(rnR J2.1 (Or.inl rfl)).1, show rN M2 452 5 = 0 from (r4 452 (by decide) 5).trans vup_eq, sgZ0]
    have l4 : StW u' M1 454 0 := hR1.2.1 (by rw [s1, ← h07]; exact m7)
    have hR3 : JR u' u' M2 := ⟨fun i hi hs => (rw_eq J1.1 J2.1 (by decide) (by decide) sa_453 sa_454 (t3 (0 + i) (by omega))).trans (l4 i hi hs), fun _ i hi hs => (rw_eq J1.1 J2.1 (by decide) (by decide) sa_454 sa_454 (o2 454 (0 + i) (by decide) (by decide) (by decide))).trans (l4 i hi hs), fun n hn q => by
      rw [t5] at q
      omega⟩
    exact ⟨_, _, S1, L1, M1, z1, S2, L2, M2, z2, e1, J1, e2, J2, hR2, s7, u, u, u', u', hC2, hR3, hu, hu⟩
  · have q0 : rN M 0 7 = 0 := by
      have := le07 hJ.1
      omega
    obtain ⟨r1, r2⟩ := vcall (E := E) hJ.1 w1 (v_Lrest0 (D := 191) (f := rN M) q0) e1
    obtain ⟨r3, r4⟩ := vcall (E := E) J1.1 wl_1 (v_restR0 (D := 193) (f := rN M1) (e7.trans q0)) e2
    have r1 : v1 = vI 1 := r1
    have r3 : v2 = vI 0 := r3
    subst r1
    subst r3
    have hC1 : JC v u M1 := JC_same hJ.1 J1.1 (fun k hk i => r2 k (by omega) i) (K1 0 (by decide) 7 n0_385) hC
    have hC2 : JC v u M2 := JC_lo (noP_ok np_330 K2) hC1
    have o2 : ∀ k i, k ≠ 452 → k < 466 → rN M2 k i = rN M1 k i := fun k i hk hl => (r4 k hl i).trans (vup_ne (Or.inl hk))
    have t5 : rdI M2 452 5 = rdI M1 452 5 := by
      rw [(rnR J2.1 (Or.inl rfl)).1, (rnR J1.1 (Or.inl rfl)).1, show rN M2 452 5 = rN M1 452 5 from (r4 452 (by decide) 5).trans (vup_ne (Or.inr (by decide)))]
    exact ⟨_, _, S1, L1, M1, z1, S2, L2, M2, z2, e1, J1, e2, J2, hR2, s7, v, u, v', u', hC2, JR_same (fun i _ => rw_eq J1.1 J2.1 (by decide) (by decide) sa_453 sa_453 (o2 453 i (by decide) (by decide))) (fun i _ => rw_eq J1.1 J2.1 (by decide) (by decide) sa_454 sa_454 (o2 454 i (by decide) (by decide))) (fun i => rw_eq J1.1 J2.1 (by decide) (by decide) sa_457 sa_457 (o2 457 i (by decide) (by decide))) t5 s2 hR1, hv, hu⟩
