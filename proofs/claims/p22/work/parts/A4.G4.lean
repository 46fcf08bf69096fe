/-! both answer alike: wid -/
noncomputable def cl_173 : Ctr := ([(1, 452, 0)], [], [], [], [((0, 0), (0, (-2147483648), 2147483647), [], [])])
theorem hl_173 : xctr kd0 sh0 rt0 bd0 un0 PR0 MT0 (ctL []) 2 (1, nb_X11_thrown, []) cl_173 = true := by decide +kernel
theorem kl_173 {Ev : Env9} : CK Ev 10 (173, cl_173) := CK_up (xctr_ok hu0 hang_0 hR9 hMT9 (b := 0) (ctL_ok (l := []) trivial) (mo_X11_thrown rfl _) hl_173) (by decide)
theorem lj_173 : lcJ cl_173 0 = true := by decide +kernel
theorem wj_173 : wfree cl_173 = true := by decide +kernel
/-- a call of the class's, one of the reference's, thrown -/
def Th3T (E : Env9) (y : Nat) (as : List AV) (w : Nat) (bs : List AV) (M : Mem) : Prop := ∃ (x1 x2 x3 : Nat) (S1 L1 : List AV) (M1 : Mem) (z1 : Nat) (S2 L2 : List AV) (M2 : Mem) (z2 : Nat) (S3 L3 : List AV) (M3 : Mem) (z3 : Nat), runM 200 y E 466 as M = some [((0, 0), E, vI x1, S1, L1, M1, 466, z1)] ∧ JI M1 ∧ runM 200 w E 466 bs M1 = some [((0, 0), E, vI x2, S2, L2, M2, 466, z2)] ∧ JI M2 ∧ RJ M2 ∧ runM 200 173 E 466 [vR 452] M2 = some [((0, 0), E, vI x3, S3, L3, M3, 466, z3)] ∧ JI M3 ∧ RJ M3 ∧ x1 < 4294967296 ∧ sg x3 = sg x1 ∧ (sg x1 = 0 → rdI M3 465 0 = sg x2)
theorem kbx_rf {M : Mem} : KBX false false M M := ⟨⟨rfl, rfl, fun _ => rfl, fun _ => rfl⟩, rfl, rfl, fun _ _ _ _ p q => ⟨p, q⟩⟩
theorem th3T_of {E : Env9} {y w : Nat} {as bs : List AV} {M M1 M2 : Mem} {x1 x2 z1 z2 : Nat} {S1 L1 S2 L2 : List AV} (e1 : runM 200 y E 466 as M = some [((0, 0), E, vI x1, S1, L1, M1, 466, z1)]) (J1 : JI M1) (e2 : runM 200 w E 466 bs M1 = some [((0, 0), E, vI x2, S2, L2, M2, 466, z2)]) (J2 : JI M2) (hR : RJ M2) (h1 : x1 < 4294967296) (h2 : rN M2 452 6 = x1) (h3 : x1 = 0 → rdI M2 465 0 = sg x2) : Th3T E y as w bs M := by
  obtain ⟨v, S3, L3, M3, z3, e3, ⟨p, p1, -, -, p4⟩, J3, hk⟩ := calG9_of (kl_173 (Ev := E) 200 (by decide)) lj_173 (show asOK kd0 cl_173.1 [vR 452] from ⟨a452, trivial⟩) M2 J2
  have hv := (vcall (E := E) J2.1 wl_1 (v_thrown (D := 194)) e3).1
  have hv : v = vI (rN M2 452 6) := hv
  subst hv
  have k3 : KB false false M2 M3 := kb_of J2.1 J3.1 (by decide +kernel) (by decide +kernel) (by decide +kernel) (by decide +kernel) hk p1 p4
  refine ⟨x1, x2, _, S1, L1, M1, z1, S2, L2, M2, z2, S3, L3, M3, z3, e1, J1, e2, J2, hR, e3, J3, ?_, h1, by rw [h2], fun h => (hk 465 (by decide) 0 rfl).trans (h3 (sg_inj h1 (show 0 < 4294967296 by decide) (h.trans sgZ0.symm)))⟩
  exact rj_two (z := false) hR kbx_rf ⟨k3, KX_fr (kw_fr wj_173 hk)⟩
theorem lj_357 : lcJ cl_357 0 = true := by decide +kernel
theorem lj_278 : lcJ ct_167 0 = true := by decide +kernel
theorem wj_357 : wfree cl_357 = true := by decide +kernel
theorem wj_278 : wfree ct_167 = true := by decide +kernel
theorem is_all : allN 8 (fun e => isSt (210 + 17 * e)) = true := by decide +kernel
theorem st_raw {M : Mem} (hT : TI kd0 sh0 rt0 bd0 M) (h : JX M) {x : Nat} (hx : x < rN M 7 3) : rN M (22 + 3 * x) 1 = rN M 453 (210 + 17 * x) := by
  obtain ⟨-, v, u, v', u', c, r, ⟨e0, e1, e2, e3⟩, -⟩ := h
  obtain ⟨q, hq⟩ := sa_453
  obtain ⟨⟨n2, c2⟩, n3, c3⟩ := cnt9 hT (show 7 ∈ W9 by decide)
  have hx9 : x < 8 := by omega
  have h9 : (x : Int) < v 1 := by
    rw [← c.1.2.1, c3]
    omega
  have a := rn6 (i := 1) hT (show 7 + 15 + 3 * x < 466 by omega) ((kW_ok (show 7 ∈ W9 by decide)).2.2 x hx9) (Or.inl rfl)
  have b := rn_arr (k := 453) (i := 210 + 17 * x) hT (by decide) hq
  have s0 := r.1 (210 + 17 * x) (by omega) (allN_ok is_all x hx9)
  rw [Nat.zero_add] at s0
  have s1 := (c.1.2.2.2 x hx9 h9).1
  have s2 := (e3 x hx9 h9).1
  rw [show 22 + 3 * x = 7 + 15 + 3 * x by omega]
  exact sg_inj a.2 b.2 (by rw [← a.1, ← b.1, s0, ← s2]; exact s1)
theorem th3_q {E : Env9} {M : Mem} (hJ : JI M) (hR : RJ M) {x : Nat} (hx : x < 4294967296) : Th3T E 357 [vR 0, vI x, vR 465] 278 [vR 452, vI x] M := by
  obtain ⟨v1, S1, L1, M1, z1, e1, ⟨p, p1, -, -, p4⟩, J1, K1⟩ := calG9_of (kl_357 (Ev := E) 200 (by decide)) lj_357 (show asOK kd0 cl_357.1 [vR 0, vI x, vR 465] from ⟨a0, aFull x hx, a465, trivial⟩) M hJ
  have k1 : KB false false M M1 := kb_of hJ.1 J1.1 (by decide +kernel) (by decide +kernel) (by decide +kernel) (by decide +kernel) K1 p1 p4
  obtain ⟨v2, S2, L2, M2, z2, e2, ⟨q, q1, -, -, q4⟩, J2, K2⟩ := calG9_of (cc_167 (Ev := E) 200 (by decide)) lj_278 (show asOK kd0 ct_167.1 [vR 452, vI x] from ⟨a452, aFull x hx, trivial⟩) M1 J1
  have k2 : KB false false M1 M2 := kb_of J1.1 J2.1 (by decide +kernel) (by decide +kernel) (by decide +kernel) (by decide +kernel) K2 q1 q4
  have b1 : KBX false false M M1 := ⟨k1, KX_fr (kw_fr wj_357 K1)⟩
  have R1 : RJ M1 := rj_two hR b1 kbx_rf
  have R2 : RJ M2 := rj_two hR b1 ⟨k2, KX_fr (kw_fr wj_278 K2)⟩
  have w1 : WL [vR 0, vI x, vR 465] := wlr9 (wli9 hx wl_1)
  have w2 : WL [vR 452, vI x] := wlr9 (wli9 hx vwl_0)
  obtain ⟨⟨n2, -⟩, n3, -⟩ := cnt9 hJ.1 (show 7 ∈ W9 by decide)
  obtain ⟨y, hy⟩ := sa_453
  have g := J1.2.2.2.2.2
  have g0 := rn_arr (k := 453) (i := 1) J1.1 (by decide) hy
  have g1 : rN M1 453 1 ≤ 8 := sg_small g0.2 (by decide) (by rw [← g0.1]; have := g.1; simp only [Nat.zero_add] at this; omega) (by rw [← g0.1]; have := g.2; simp only [Nat.zero_add] at this; exact this)
  have g2 : 1 ≤ rN M1 453 1 := by
    refine Nat.pos_of_ne_zero (fun h0 => ?_)
    have h1 := g.1
    simp only [Nat.zero_add] at h1
    rw [g0.1, h0, sgZ0] at h1
    exact absurd h1 (by decide)
  have c1 := (JX_cnt J1.1 R1.2).2
  by_cases k : x < rN M 7 3
  · obtain ⟨r1, r2⟩ := vcall (E := E) hJ.1 w1 ((v_Lwid (D := 191) (f := rN M) hx n3).1 k) e1
    have h72 : rN M1 7 3 = rN M 7 3 := (r2 7 (by decide) 3).trans (vup_ne (Or.inl (by decide)))
    obtain ⟨r3, r4⟩ := vcall (E := E) J1.1 w2 ((v_widR (D := 191) (f := rN M1) hx g2 g1).1 (by rw [← c1, h72]; exact k)) e2
    have r1 : v1 = vI 0 := r1
    have r3 : v2 = vI (rN M1 453 (210 + 17 * x)) := r3
    subst r1
    subst r3
    refine th3T_of e1 J1 e2 J2 R2 (by decide) ((r4 452 (by decide) 6).trans vup_eq) (fun _ => ?_)
    rw [rn_out J2.1, show rN M2 465 0 = rN M1 465 0 from (r4 465 (by decide) 0).trans (vup_ne (Or.inl (by decide))), r2 465 (by decide) 0]
    refine (congrArg lsg (show outV (rN M (22 + 3 * x) 1) (rN M) 465 0 = _ from vup_eq)).trans ((lsg_out _).trans ?_)
    rw [← st_raw J1.1 R1.2 (by rw [h72]; exact k)]
    exact congrArg sg ((r2 (22 + 3 * x) (by omega) 1).trans (vup_ne (Or.inl (by omega)))).symm
  · obtain ⟨r1, r2⟩ := vcall (E := E) hJ.1 w1 ((v_Lwid (D := 191) (f := rN M) hx n3).2 k) e1
    have h72 : rN M1 7 3 = rN M 7 3 := r2 7 (by decide) 3
    obtain ⟨r3, r4⟩ := vcall (E := E) J1.1 w2 ((v_widR (D := 191) (f := rN M1) hx g2 g1).2 (by rw [← c1, h72]; exact k)) e2
    have r1 : v1 = vI 1 := r1
    have r3 : v2 = vI 0 := r3
    subst r1
    subst r3
    exact th3T_of e1 J1 e2 J2 R2 (by decide) ((r4 452 (by decide) 6).trans vup_eq) (fun w => absurd w (by decide))
