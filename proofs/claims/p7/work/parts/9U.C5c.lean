section
/-! lists of contracts -/
noncomputable def tl_fog : List (Nat × Ctr) := [(231, ct_238), (235, ct_239), (235, ct_240), (236, ct_243), (234, ct_246)]
noncomputable def tl_echo : List (Nat × Ctr) := [(229, ct_156), (235, ct_239), (235, ct_240), (240, ct_249), (235, ct_250), (235, ct_251), (235, ct_253), (235, ct_254)]
noncomputable def tl_valley : List (Nat × Ctr) := [(229, ct_156), (235, ct_250), (235, ct_251), (235, ct_253), (235, ct_254), (240, ct_257), (235, ct_258), (235, ct_259), (235, ct_261), (235, ct_262)]
noncomputable def tl_start : List (Nat × Ctr) := [(231, ct_234), (235, ct_236), (234, ct_245), (234, ct_246), (234, ct_247)]
end
section
/-! the line 'tested'; the end of a line -/
noncomputable def ctM0 (b : Nat) : Ctr := ([(1, 452, 0), (0, (b : Int), (b : Int))], [fM 17 0 900, fM 20 0 0], [], [(13, 17, 21)], [((0, 0), (0, 0, 11 - 4 * (b : Int)), [fM 17 0 900, fM 20 0 0], []), ((0, 0), (0, 0, 0), [fM 17 0 900, fM 20 1 4], [])])
noncomputable def ctM1 (b : Nat) : Ctr := ([(1, 452, 0), (0, (b : Int), (b : Int))], [fM 20 1 4], [], [], [((0, 0), (0, 0, 0), [], [])])
noncomputable def clM : List (Nat × Ctr) := [(229, ctNx), (232, ctGp), (240, ct_249), (240, ct_257)]
noncomputable def mdM : MDT := (3, nb_X11_mustBe, [])
theorem chM00 : xctr kd0 sh0 rt0 bd0 un0 PRA MT0 (ctL clM) 8 mdM (ctM0 0) = true := by decide +kernel
theorem chM01 : xctr kd0 sh0 rt0 bd0 un0 PRA MT0 (ctL clM) 8 mdM (ctM0 1) = true := by decide +kernel
theorem chM10 : xctr kd0 sh0 rt0 bd0 un0 PRA MT0 (ctL clM) 8 mdM (ctM1 0) = true := by decide +kernel
theorem chM11 : xctr kd0 sh0 rt0 bd0 un0 PRA MT0 (ctL clM) 8 mdM (ctM1 1) = true := by decide +kernel
theorem clM_ok {Ev : Env9} {a : Int} (h0 : CK Ev 40 (240, ct_249)) (h1 : CK Ev 40 (240, ct_257)) : ∀ y, ∀ ct ∈ ctL clM y, ∀ k, 40 ≤ k → CtrOK kd0 sh0 rt0 bd0 (InvA a) Ev (runM k) y ct := caL_ok (l := clM) (And.intro (CA_up nx_A (by decide)) (And.intro (CA_up gp_A (by decide)) (And.intro (CA_of h0 (by decide) rfl) (And.intro (CA_of h1 (by decide) rfl) trivial))))
theorem mdM_ok : MDOK bo9 241 mdM := mo_X11_mustBe rfl _
noncomputable def clT : List (Nat × Ctr) := [(232, ctGp), (241, ctM0 0), (241, ctM0 1), (241, ctM1 0), (241, ctM1 1)]
noncomputable def ctTl : Ctr := ([(1, 452, 0)], [fM 17 0 900, fM 18 0 900, fM 19 0 900, fM 20 0 0], [sBW, sBA 0 0], [(13, 17, 21), (31, 339, 626)], [((1, 0), (1, 0, 0), [fM 17 0 900, fM 20 0 0], []), ((1, 0), (1, 0, 0), [fM 17 0 900, fM 20 1 4], [])])
noncomputable def mdTl : MDT := (3, nb_X11_testedLine, [])
theorem chTl : xctr kd0 sh0 rt0 bd0 un0 PRA MT0 (ctL clT) 8 mdTl ctTl = true := by decide +kernel
theorem tl_A {Ev : Env9} {a : Int} (h0 : CK Ev 40 (240, ct_249)) (h1 : CK Ev 40 (240, ct_257)) : CA a Ev 60 (250, ctTl) := fun k hk =>
  xctr_ok hu0 hang_A hR9 hMT9 (b := 49) (caL_ok (l := clT) (And.intro (CA_up gp_A (by decide)) (And.intro (fun k hk => xctr_ok hu0 hang_A hR9 hMT9 (b := 40) (clM_ok h0 h1) mdM_ok chM00 k hk) (And.intro (fun k hk => xctr_ok hu0 hang_A hR9 hMT9 (b := 40) (clM_ok h0 h1) mdM_ok chM01 k hk) (And.intro (fun k hk => xctr_ok hu0 hang_A hR9 hMT9 (b := 40) (clM_ok h0 h1) mdM_ok chM10 k hk) (And.intro (fun k hk => xctr_ok hu0 hang_A hR9 hMT9 (b := 40) (clM_ok h0 h1) mdM_ok chM11 k hk) trivial)))))) (show MDOK bo9 250 mdTl from mo_X11_testedLine rfl _) chTl k (by omega)
end
section
/-! the line of fog -/
noncomputable def sFg (c : Nat) : SPt := ([some (1, 452, 0), none], [k31 4 c c, fM 20 0 0, fM 17 0 900], [])
noncomputable def sFe : SPt := ([some (1, 452, 0), none], [fM 20 1 4, fM 17 0 900], [])
noncomputable def pFg : List Pst := [((1, 0), (1, 0, 0), [fM 17 0 900, fM 20 0 0, k31 4 1 12], []), ((1, 0), (1, 0, 0), [fM 17 0 901, fM 20 1 4], [])]
noncomputable def wFg : Wrg := [(13, 17, 21), (31, 4, 4), (31, 11, 22)]
noncomputable def ctFg : Ctr := ([(1, 452, 0)], [fM 17 0 900, fM 20 0 0], [], wFg, pFg)
noncomputable def mdFg : MDT := (2, nb_X11_fogLine, [])
noncomputable def chFg0 (c : Nat) : Bool := xseg kd0 sh0 rt0 bd0 un0 (inW wFg) PR0 MT0 (ctL tl_fog) 4 mdFg [(1, [sFg c, sFe])] [] 1000000 0 (spI 2 ctFg.1, [k31 4 c c, fM 17 0 900, fM 20 0 0], [])
noncomputable def chFg1 (c : Nat) : Bool := xseg kd0 sh0 rt0 bd0 un0 (inW wFg) PR0 MT0 (ctL tl_fog) 8 mdFg (yif (Nat.blt c 12) [(1, [sFg (c + 1)])]) pFg 1000000 1 (sFg c)
theorem chFgA : allN 13 chFg0 = true := by decide +kernel
theorem chFgB : allN 13 chFg1 = true := by decide +kernel
theorem chFge : xseg kd0 sh0 rt0 bd0 un0 (inW wFg) PR0 MT0 (ctL tl_fog) 8 mdFg [] pFg 1000000 1 sFe = true := by decide +kernel
theorem bFog : bdAt 453 4 0 12 = true := by decide +kernel
theorem fog_ok {Ev : Env9} (hl : ∀ y, ∀ ct ∈ ctL tl_fog y, ∀ k, 40 ≤ k → CtrOK kd0 sh0 rt0 bd0 Inv0 Ev (runM k) y ct) : CK Ev 60 (247, ctFg) := by
  intro k hk
  obtain ⟨k', rfl⟩ : ∃ k', k = k' + 1 := ⟨k - 1, by omega⟩
  refine ctr_st hR9 (show MDOK bo9 247 mdFg from mo_X11_fogLine rfl _) (Nat.le_of_ble_eq_true rfl) (fun d ct hmC M0 _ _ f hf L M hQ hM => ?_)
  have hC : ∀ D, D ≤ 8 → CS kd0 sh0 rt0 bd0 (inW wFg) Inv0 M0 Ev (runM k') (xM kd0 sh0 rt0 bd0 un0 (inW wFg) PR0 MT0 (ctL tl_fog) D) := fun D hD => csL (b := 40) hang_0 hl (by omega)
  have hP : ∀ r : Res, r.2.1 = Ev → r.2.2.2.2.2.2.1 = 466 → GM kd0 sh0 rt0 bd0 (inW wFg) Inv0 M0 r.2.2.2.2.2.1 → (∃ q ∈ pFg, pOK kd0 q r) → EnP kd0 sh0 rt0 bd0 Inv0 Ev ctFg M0 r := fun r r1 r2 r3 q => ⟨r1, r2, r3.1, r3.2.1, r3.2.2, q⟩
  have key : ∀ m c, c + m = 12 → StK kd0 sh0 rt0 bd0 (inW wFg) Inv0 M0 Ev (runM k') d ct (fu 1000000 1000000 m) 1 (SpOK kd0 (sFg c)) (EnP kd0 sh0 rt0 bd0 Inv0 Ev ctFg M0) := by
    intro m
    induction m with
    | zero =>
      intro c hc
      have e : c = 12 := by omega
      subst e
      have h9 := xseg_ok (C := 1000000) (F := 0) hu0 hang_0 (hC 8 (by omega)) hmC (allN_ok chFgB 12 (by omega)) (fun q q1 => by obtain ⟨h, _⟩ := yif_mem q1; cases h) hP
      exact fun f hf => h9 f (by rw [fu_0] at hf; exact hf)
    | succ m ih =>
      intro c hc
      have h9 := xseg_ok (C := 1000000) (F := fu 1000000 1000000 m) hu0 hang_0 (hC 8 (by omega)) hmC (allN_ok chFgB c (by omega)) (fun q q1 p q2 => by
        obtain ⟨_, q1⟩ := yif_mem q1
        obtain rfl := List.mem_singleton.mp q1
        obtain rfl := List.mem_singleton.mp q2
        exact ih (c + 1) (by omega)) hP
      rw [fu_s, Nat.add_comm]
      exact h9
  have ke := xseg_ok (C := 1000000) (F := 0) hu0 hang_0 (hC 8 (by omega)) hmC chFge (fun q q1 => by cases q1) hP
  have hb := bdAt_ok bFog hM.1
  have hfu : ∀ m, m ≤ 12 → fu 1000000 1000000 m ≤ 13000000 := fun m hm => by
    have h9 : allN 13 (fun m => Nat.ble (fu 1000000 1000000 m) 13000000) = true := by decide +kernel
    exact Nat.le_of_ble_eq_true (allN_ok h9 m (by omega))
  obtain ⟨c, hc, hce⟩ : ∃ c : Nat, c < 13 ∧ rdI M 453 4 = (c : Int) := ⟨(rdI M 453 4).toNat, by omega, by omega⟩
  refine xseg_ok (C := 1000000) (F := 13000000) hu0 hang_0 (hC 4 (by omega)) hmC (allN_ok chFgA c hc) (fun q q1 p q2 => ?_) (fun r _ _ _ q => by obtain ⟨p, hp, _⟩ := q; cases hp) f (by omega) L M ⟨hQ.1, prFa_app (l := [k31 4 c c]) (prFa_1 (c := 453) (i := 4) (by omega) (by omega) (by omega)) hQ.2.1, fun q hq => by cases hq⟩ hM
  obtain rfl := List.mem_singleton.mp q1
  rcases List.mem_cons.mp q2 with e | q2
  · rw [e]; exact fun f hf => key (12 - c) c (by omega) f (Nat.le_trans (hfu (12 - c) (by omega)) hf)
  · rw [List.mem_singleton.mp q2]; exact fun f hf => ke f (by omega)
end
section
/-! load: its row made empty -/
noncomputable def mdLd : MDT := (2, nb_X11_load, [])
theorem mdLd_ok : MDOK bo9 252 mdLd := mo_X11_load rfl _
theorem ld_f : isObjF 452 11 0 (31 + 2) = true := by decide +kernel
theorem ld_r : rt0 452 0 = 453 := Nat.eq_of_beq_eq_true (by decide +kernel)
theorem row_453 : isRow 453 627 = true := by decide +kernel
theorem bz_453 : allN 627 (fun j => Bool.rec false (ile (bd0 (kd0 453) ((j : Nat) : Int)).1 0) (ile 0 (bd0 (kd0 453) ((j : Nat) : Int)).2)) = true := by decide +kernel
def Zr (k : Nat) (M M1 : Mem) : Prop := (∀ j, j < k → rdI M1 453 j = 0) ∧ ∀ k', k' < 466 → ∀ i : Nat, k' ≠ 453 ∨ k ≤ i → rdI M1 k' i = rdI M k' i
theorem sg_00 : sg 0 = 0 := rfl
section LDH
variable {call : Call} {Ev : Env9} {d : Nat} {ct : TrT Blk d}
theorem ld_b1 (h : MdC mdLd d ct) : tget d ct 1 = ([op_ld isI 1, op_push (vI 627)], tm_icmp 2 3 3) := h 1 _ rfl
theorem ld_b2 (h : MdC mdLd d ct) : tget d ct 2 = ([op_ld isA 0, op_getf 11 0, op_ld isI 1, op_push (vI 0), op_iast, op_iinc 1 1], tm_goto 1) := h 2 _ rfl
theorem ld_s1 (h : MdC mdLd d ct) {f k : Nat} {M : Mem} (hk : k < 627) : runF call d ct (f + 1) 1 Ev 466 0 [vR 452, vI k] [] M = runF call d ct f 2 Ev 466 0 [vR 452, vI k] [] M := by
  have hl : sg k < sg 627 := by
    rw [sg_eq (show k ≤ 2147483647 by omega), sg_eq (show 627 ≤ 2147483647 by decide)]
    omega
  rw [rF9 f (ld_b1 h), rBc, rBc, rBn, ldn, show nth [vR 452, vI k] 1 = vI k from rfl, isIv, gdt, pun, icn, c3_eq, if_pos (bi_lt_iff.mpr hl)]
theorem ld_s2 (h : MdC mdLd d ct) {f k p : Nat} {fs : List AV} {M : Mem} (hO : tget 9 M 452 = cO 11 fs) (hl : 0 < fs.length) (hr : nth fs 0 = vR 453) (hA : tget 9 M 453 = cI 0 627 p []) (hk : k < 627) : runF call d ct (f + 1) 2 Ev 466 0 [vR 452, vI k] [] M = runF call d ct f 1 Ev 466 0 [vR 452, vI (k + 1)] [] (tset 9 M 453 (cI 0 627 (pset p k 0) [])) := by
  rw [rF9 f (ld_b2 h), rBc, rBc, rBc, rBc, rBc, rBc, rBn,
    ldn, show nth [vR 452, vI k] 0 = vR 452 from rfl, isAv, gdt, op_getf_n hO hl, hr, ldn, show nth [vR 452, vI k] 1 = vI k from rfl, isIv, gdt, pun, op_iast_n hA hk,
    incn 1 1 k 0 _ _ _ _ (show nth [vR 452, vI k] 1 = vI k from rfl) (show lk2 [vR 452, vI k] 1 = true from rfl), Nat.mod_eq_of_lt (show k + 1 < 4294967296 by omega), gotn]
  rfl
theorem ld_loop (h : MdC mdLd d ct) {F : Nat} {P : Res → Prop} {M : Mem} (hN : ∀ f, F ≤ f → ∀ M1, Zr 627 M M1 → TI kd0 sh0 rt0 bd0 M1 → OKo (runF call d ct f 1 Ev 466 0 [vR 452, vI 627] [] M1) P) : ∀ (m k f : Nat) (M1 : Mem), k + m = 627 → 2 * m + F ≤ f → Zr k M M1 → TI kd0 sh0 rt0 bd0 M1 → OKo (runF call d ct f 1 Ev 466 0 [vR 452, vI k] [] M1) P := by
  intro m
  induction m with
  | zero =>
    intro k f M1 hk hf g1 g2
    have e : k = 627 := by omega
    subst e
    exact hN f (by omega) M1 g1 g2
  | succ m ih =>
    intro k f M1 hk hf g1 g2
    obtain ⟨f', rfl⟩ : ∃ f', f = f' + 1 + 1 := ⟨f - 2, by omega⟩
    obtain ⟨p, u1, u2, u3⟩ := row_of g2 (by omega) row_453
    obtain ⟨fs, o1, o2, o3⟩ := ref_of g2 (by omega) ld_f
    rw [ld_r] at o3
    have hk7 : k < 627 := by omega
    rw [ld_s1 h hk7, ld_s2 h o1 o2 o3 u1 hk7]
    obtain ⟨y1, y2⟩ := band (a := ile 0 (bd0 (kd0 453) ((k : Nat) : Int)).2) (b := ile (bd0 (kd0 453) ((k : Nat) : Int)).1 0) (allN_ok bz_453 k hk7)
    have y1 := ile_iff.mp y1
    have y2 := ile_iff.mp y2
    have hT2 := row_set (j := k) (x := 0) g2 (by omega) row_453 u1 (by decide) ⟨by rw [sg_00]; exact y2, by rw [sg_00]; exact y1⟩
    have hr : ∀ i, rdI M1 453 i = sg (pget p i) := fun i => by unfold rdI; rw [u1]; rfl
    refine ih (k + 1) f' _ (by omega) (by omega) ⟨fun j hj => ?_, fun k' hk' i' hi' => ?_⟩ hT2
    · rw [rdI_self (by omega)]
      show sg (pget (pset p k 0) j) = 0
      rw [pget_pset]
      by_cases q : j = k
      · rw [if_pos (by omega)]; rfl
      · rw [if_neg (by omega), ← hr]
        exact g1.1 j (by omega)
    · by_cases q : k' = 453
      · rw [q, rdI_self (by omega)]
        show sg (pget (pset p k 0) i') = _
        rw [pget_pset, if_neg (by omega), ← hr]
        exact g1.2 453 (by omega) i' (Or.inr (by omega))
      · rw [rdI_other (by omega) hk' q]
        exact g1.2 k' hk' i' (Or.inl q)
end LDH
theorem inv_zr {M M1 : Mem} (h : Zr 627 M M1) (hI : Inv0 M) : Inv0 M1 := by
  have o : ∀ k, k < 466 → k ≠ 453 → ∀ i, rdI M1 k i = rdI M k i := fun k hk h9 i => h.2 k hk i (Or.inl h9)
  refine ⟨fun q hq => ?_, ⟨fun hs => ?_, XC_eq (fun k i hk _ => o k (by omega) (by omega) i) hI.2.1.2.1, XT_eq (fun k i hk _ => o k (by omega) (by omega) i) hI.2.1.2.2⟩, fun i hi h9 => ?_⟩
  · by_cases e : q.1 = 453
    · intro e9 he v hv h1
      have e2 : q.2 = 0 := (by decide : ∀ q ∈ rows9, q.1 = 453 → q.2 = 0) q hq e
      rw [e, e2, h.1 _ (by omega)] at h1
      omega
    · exact RowE_eq (fun j _ => o q.1 (rows9_lt q hq) e _) (hI.1 q hq)
  · rw [o 452 (by omega) (by omega)] at hs
    exact GoodR_eq (k := 454) (o := 0) (fun j _ => o 454 (by omega) (by omega) _) (hI.2.1.1 hs)
  · rw [o 452 (by omega) (by omega)] at h9
    exact GoodR_eq (k := 457) (o := 627 * i) (fun j _ => o 457 (by omega) (by omega) _) (hI.2.2 i hi h9)
/-- what keeps the held row -/
theorem kd_455 : kd0 455 = 33 := kd_n 455 33 (by decide +kernel)
theorem good_455 {w : Wrg} (hw : ∀ a ∈ w, a.1 ≠ 33) {M M' : Mem} (hF : Fr kd0 (inW w) M M') (hg : GoodR M 455 0) : GoodR M' 455 0 :=
  GoodR_eq (k := 455) (o := 0) (fun j _ => hF 455 (by omega) _ (by rw [kd_455]; exact inW_no (fun a ha e => absurd e (hw a ha)))) hg
end
