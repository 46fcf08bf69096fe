/-! truncate, append; all cases -/
theorem c3_same {u w : Nat} {a b c : OR} (h : u = w) : c3 u w a b c = b := by
  subst h
  show (Bool.rec (Bool.rec c b (Nat.beq u u)) a (Nat.ble (u + 1) u) : OR) = b
  rw [Nat.beq_refl]
  cases h1 : Nat.ble (u + 1) u with
  | false => rfl
  | true => have := Nat.le_of_ble_eq_true h1; omega
theorem c3_ne {u w : Nat} {a b : OR} (h : u ≠ w) : c3 u w a b a = a := by
  rcases Nat.lt_or_ge u w with q | q
  · show (Bool.rec (Bool.rec a b (Nat.beq u w)) a (Nat.ble (u + 1) w) : OR) = a
    rw [Nat.ble_eq_true_of_le (show u + 1 ≤ w from q)]
  · exact c3_gt (by omega)
section CASE4
variable {N : Nat} {E : Env9}
theorem rb_i2l {call : Call} {j : Jmp} {t : Trm} {l : List Op1} {n z x : Nat} {L S : List AV} {M : Mem} : runB call j t (op_i2l :: l) E n z L (vI x :: S) M = runB call j t l E n z L (vJ (toNL (nI x).toInt64) :: S) M := by
  show fN (toNL (nI x).toInt64) (fun r => runB call j t l E n z L (vJ r :: S) M) = _
  rw [fN_eq]
theorem rb_lcmp {call : Call} {j : Jmp} {t : Trm} {l : List Op1} {n z x y : Nat} {L S : List AV} {M : Mem} : runB call j t (op_lcmp :: l) E n z L (vJ y :: vJ x :: S) M = runB call j t l E n z L (vI (toN (lg_cmp (lN x) (lN y))) :: S) M := by
  show fN (toN (lg_cmp (lN x) (lN y))) (fun r => runB call j t l E n z L (vI r :: S) M) = _
  rw [fN_eq]
theorem sh465 : ∃ N, sh0 (kd0 465) = .inr (.inr (.inr N)) ∧ N = 1 := ⟨_, rfl, rfl⟩
theorem out_of {M : Mem} (hT : TI kd0 sh0 rt0 bd0 M) : ∃ y xs, tget 9 M 465 = cL xs ∧ 0 < xs.length ∧ nth xs 0 = vJ y ∧ rdI M 465 0 = lsg y := by
  obtain ⟨N, h1, h2⟩ := sh465
  obtain ⟨xs, e1, e2, e3⟩ := co_lng hT (by decide) h1
  obtain ⟨y, hy⟩ := e3 0 (by omega)
  refine ⟨y, xs, e1, by omega, hy, ?_⟩
  show rdC (tget 9 M 465) 0 = lsg y
  rw [e1]
  show avJ (nth xs 0) = lsg y
  rw [hy]
  rfl
/-- the compare of thrown's answer was good: that of the answers -/
theorem fin_cmp {call : Call} {i z z0 f x1 x2 b6 b7 b9 bg : Nat} {c d : AV} {M : Mem} (hb6 : tget 7 (ct_L_law N) b6 = ([op_ld isI 5], tm_if b9 b7 b9)) (hb7 : tget 7 (ct_L_law N) b7 = ([op_ld isA 3, op_push (vI 0), op_lald, op_ld isI 6, op_i2l, op_lcmp], tm_if bg b9 bg)) (hb9 : tget 7 (ct_L_law N) b9 = ([], tm_goto 71)) (hN : N ≤ 3072) (hE : PE N E) (hi : i + 6 ≤ N) (hz : z ≤ z0 + 21) (hJ : JI M) (hl : RJ M) (h1 : x1 < 4294967296) (hx : sg x1 = 0 → rdI M 465 0 = sg x2) : OKo (runF call 7 (ct_L_law N) (f + 8) b6 E 466 z (LB i (vI x1) (vI x2) c d) [] M) (GE N E i z0) := by
  by_cases q : sg x1 = 0
  · obtain ⟨y, xs, e1, e2, e3, e4⟩ := out_of hJ.1
    have e5 : lsg y = lsg (toNL (nI x2).toInt64) := by rw [← e4, hx q, lsg_i2l]
    have e6 : bi (toN (lg_cmp (lN y) (lN (toNL (nI x2).toInt64)))) = bi 0 := bi_eq_iff.mpr (by rw [lcmp_sg, e5, if_neg (Int.lt_irrefl _), if_pos rfl, sgZ0])
    have k7 : runB call (runF call 7 (ct_L_law N) (f + 6)) (tm_if bg b9 bg) [op_ld isA 3, op_push (vI 0), op_lald, op_ld isI 6, op_i2l, op_lcmp] E 466 z (LB i (vI x1) (vI x2) c d) [] M = runF call 7 (ct_L_law N) (f + 6) b9 E 466 z (LB i (vI x1) (vI x2) c d) [] M := by
      show op_lald call (runB call (runF call 7 (ct_L_law N) (f + 6)) (tm_if bg b9 bg) [op_ld isI 6, op_i2l, op_lcmp]) E 466 z (LB i (vI x1) (vI x2) c d) (vI 0 :: vR 465 :: []) M = _
      rw [op_lald_n e1 e2, e3]
      exact (rb_ld rfl).trans (rb_i2l.trans (rb_lcmp.trans (rb_if.trans (c3_same e6))))
    refine okEq ((rF9a hb6).trans ((rb_ld rfl).trans (rb_if.trans ((c3_same (bi_eq_iff.mpr (by rw [q, sgZ0]))).trans ((rF9a hb7).trans (k7.trans ((rF9a hb9).trans rb_goto))))))) ?_
    exact tail_ok (f := f + 1) hN hi hE hz hJ hl
  · refine okEq ((rF9a hb6).trans ((rb_ld rfl).trans (rb_if.trans ((c3_ne (fun w => q (by rw [bi_eq_iff.mp w, sgZ0]))).trans ((rF9a hb9).trans rb_goto))))) ?_
    exact tail_ok (f := f + 2) hN hi hE hz hJ hl
theorem cmp1 {y w bk b6 b7 b9 bf bg : Nat} (hb : tget 7 (ct_L_law N) bk = ([op_ld isA 1, op_ld isA 0, op_ld isI 4, op_push (vI 1), op_add, op_sld N, op_ld isA 3, op_call gS y 3 7 600000, op_st isI 5, op_ld isA 2, op_ld isA 0, op_ld isI 4, op_push (vI 1), op_add, op_sld N, op_call (gV 11) w 2 0 600000, op_st isI 6, op_ld isA 2, op_call (gV 11) 173 1 0 600000, op_ld isI 5], tm_icmp bf b6 bf)) (hb6 : tget 7 (ct_L_law N) b6 = ([op_ld isI 5], tm_if b9 b7 b9)) (hb7 : tget 7 (ct_L_law N) b7 = ([op_ld isA 3, op_push (vI 0), op_lald, op_ld isI 6, op_i2l, op_lcmp], tm_if bg b9 bg)) (hb9 : tget 7 (ct_L_law N) b9 = ([], tm_goto 71)) (hN : N ≤ 3072) (hE : PE N E) (h3 : ∀ M x, JI M → RJ M → x < 4294967296 → Th3T E y [vR 0, vI x, vR 465] w [vR 452, vI x] M) : CaseOK (runM 200) N E bk := by
  intro i z a b c d M hi hz hJ hl
  obtain ⟨p0, h0, q0⟩ := hE (i + 1) (by omega)
  obtain ⟨x1, x2, x3, S1, L1, M1, z1, S2, L2, M2, z2, S3, L3, M3, z3, e1, J1, e2, J2, R2, e3, J3, R3, hx1, g2, g3⟩ := h3 M p0 hJ hl h0
  refine okEq ((rF9a hb).trans ((rb_ld rfl).trans ((rb_arg (by omega) (by omega) q0 h0).trans ((rb_ld rfl).trans ((rb_call (as := [vR 0, vI p0, vR 465]) (rest := []) rfl rfl rfl (by omega) rfl e1).trans (rb_st5.trans ((rb_ld rfl).trans ((rb_arg (by omega) (by omega) q0 h0).trans ((rb_call (as := [vR 452, vI p0]) (rest := []) rfl rfl rfl (by omega) (gv_of J1.1 (by decide) sh452) e2).trans (rb_st6.trans ((rb_ld rfl).trans ((rb_call (as := [vR 452]) (rest := []) rfl rfl rfl (by omega) (gv_of J2.1 (by decide) sh452) e3).trans ((rb_ld rfl).trans (rb_icmp.trans ((c3_same (bi_eq_iff.mpr g2))))))))))))))))) ?_
  exact fin_cmp (f := 1) hb6 hb7 hb9 hN hE hi (by omega) J3 R3 hx1 g3
theorem app_no {bk : Nat} (hb : tget 7 (ct_L_law N) bk = ([op_ld isA 1, op_ld isA 0, op_ld isI 4, op_push (vI 1), op_add, op_sld N, op_ld isA 0, op_ld isI 4, op_push (vI 2), op_add, op_sld N, op_ld isA 0, op_ld isI 4, op_push (vI 3), op_add, op_sld N, op_ld isA 0, op_ld isI 4, op_push (vI 4), op_add, op_sld N, op_ld isA 0, op_ld isI 4, op_push (vI 5), op_add, op_sld N, op_ld isA 3, op_call gS 345 7 7 600000, op_st isI 5, op_ld isA 2, op_ld isA 0, op_ld isI 4, op_push (vI 1), op_add, op_sld N, op_ld isA 0, op_ld isI 4, op_push (vI 2), op_add, op_sld N, op_ld isA 0, op_ld isI 4, op_push (vI 3), op_add, op_sld N, op_ld isA 0, op_ld isI 4, op_push (vI 4), op_add, op_sld N, op_ld isA 0, op_ld isI 4, op_push (vI 5), op_add, op_sld N, op_call (gV 11) 226 6 0 600000, op_st isI 6], tm_goto 71)) (hN : N ≤ 3072) (hE : PE N E) : CaseOK (runM 200) N E bk := by
  intro i z a b c d M hi hz hJ hl
  obtain ⟨p0, h0, q0⟩ := hE (i + 1) (by omega)
  obtain ⟨p1, h1, q1⟩ := hE (i + 2) (by omega)
  obtain ⟨p2, h2, q2⟩ := hE (i + 3) (by omega)
  obtain ⟨p3, h3, q3⟩ := hE (i + 4) (by omega)
  obtain ⟨p4, h4, q4⟩ := hE (i + 5) (by omega)
  obtain ⟨x1, x2, S1, L1, M1, z1, S2, L2, M2, z2, e1, J1, e2, J2, R2⟩ := th2_app (E := E) hJ hl h0 h1 h2 h3 h4
  refine okEq ((rF9a hb).trans ((rb_ld rfl).trans ((rb_arg (by omega) (by omega) q0 h0).trans ((rb_arg (by omega) (by omega) q1 h1).trans ((rb_arg (by omega) (by omega) q2 h2).trans ((rb_arg (by omega) (by omega) q3 h3).trans ((rb_arg (by omega) (by omega) q4 h4).trans ((rb_ld rfl).trans ((rb_call (as := [vR 0, vI p0, vI p1, vI p2, vI p3, vI p4, vR 465]) (rest := []) rfl rfl rfl (by omega) rfl e1).trans (rb_st5.trans ((rb_ld rfl).trans ((rb_arg (by omega) (by omega) q0 h0).trans ((rb_arg (by omega) (by omega) q1 h1).trans ((rb_arg (by omega) (by omega) q2 h2).trans ((rb_arg (by omega) (by omega) q3 h3).trans ((rb_arg (by omega) (by omega) q4 h4).trans ((rb_call (as := [vR 452, vI p0, vI p1, vI p2, vI p3, vI p4]) (rest := []) rfl rfl rfl (by omega) (gv_of J1.1 (by decide) sh452) e2).trans (rb_st6.trans rb_goto)))))))))))))))))) ?_
  exact tail_ok (f := 5) hN hi hE (by omega) J2 R2
theorem tru_no {bk : Nat} (hb : tget 7 (ct_L_law N) bk = ([op_ld isA 1, op_ld isA 0, op_ld isI 4, op_push (vI 1), op_add, op_sld N, op_ld isA 3, op_call gS 346 3 7 600000, op_st isI 5, op_ld isA 2, op_ld isA 0, op_ld isI 4, op_push (vI 1), op_add, op_sld N, op_call (gV 11) 227 2 0 600000, op_st isI 6], tm_goto 71)) (hN : N ≤ 3072) (hE : PE N E) : CaseOK (runM 200) N E bk := by
  intro i z a b c d M hi hz hJ hl
  obtain ⟨p0, h0, q0⟩ := hE (i + 1) (by omega)
  obtain ⟨x1, x2, S1, L1, M1, z1, S2, L2, M2, z2, e1, J1, e2, J2, R2⟩ := th2_tru (E := E) hJ hl h0
  refine okEq ((rF9a hb).trans ((rb_ld rfl).trans ((rb_arg (by omega) (by omega) q0 h0).trans ((rb_ld rfl).trans ((rb_call (as := [vR 0, vI p0, vR 465]) (rest := []) rfl rfl rfl (by omega) rfl e1).trans (rb_st5.trans ((rb_ld rfl).trans ((rb_arg (by omega) (by omega) q0 h0).trans ((rb_call (as := [vR 452, vI p0]) (rest := []) rfl rfl rfl (by omega) (gv_of J1.1 (by decide) sh452) e2).trans (rb_st6.trans rb_goto)))))))))) ?_
  exact tail_ok (f := 5) hN hi hE (by omega) J2 R2
/-- a pair of calls, told together -/
theorem case_B0p {bk h w bud : Nat} (hN : N ≤ 3072) (hE : PE N E) (hb : tget 7 (ct_L_law N) bk = ([op_ld isA 1, op_ld isA 3, op_call gS h 2 bud 600000, op_st isI 5, op_ld isA 2, op_call (gV 11) w 1 0 600000, op_st isI 6], tm_goto 71)) (hbud : bud ≤ 21) (h2 : ∀ M, JI M → RJ M → Th2 E h [vR 0, vR 465] w [vR 452] M) : CaseOK (runM 200) N E bk := by
  intro i z a b c d M hi hz hJ hl
  obtain ⟨x1, x2, S1, L1, M1, z1, S2, L2, M2, z2, e1, J1, e2, J2, R2⟩ := h2 M hJ hl
  refine okEq ((rF9a hb).trans ((rb_ld rfl).trans ((rb_ld rfl).trans ((rb_call (as := [vR 0, vR 465]) (rest := []) rfl rfl rfl (by omega) rfl e1).trans (rb_st5.trans ((rb_ld rfl).trans ((rb_call (as := [vR 452]) (rest := []) rfl rfl rfl (by omega) (gv_of J1.1 (by decide) sh452) e2).trans (rb_st6.trans rb_goto)))))))) ?_
  exact tail_ok (f := 5) hN hi hE (by omega) J2 R2
theorem case_C0p {bk h w : Nat} (hN : N ≤ 3072) (hE : PE N E) (hb : tget 7 (ct_L_law N) bk = ([op_ld isA 1, op_call (gV 10) h 1 0 600000, op_pop, op_ld isA 2, op_call (gV 11) w 1 0 600000, op_pop], tm_goto 71)) (h2 : ∀ M, JI M → RJ M → Th2 E h [vR 0] w [vR 452] M) : CaseOK (runM 200) N E bk := by
  intro i z a b c d M hi hz hJ hl
  obtain ⟨x1, x2, S1, L1, M1, z1, S2, L2, M2, z2, e1, J1, e2, J2, R2⟩ := h2 M hJ hl
  refine okEq ((rF9a hb).trans ((rb_ld rfl).trans ((rb_call (as := [vR 0]) (rest := []) rfl rfl rfl (by omega) (gv_of hJ.1 (by decide) sh_0) e1).trans (rb_pop.trans ((rb_ld rfl).trans ((rb_call (as := [vR 452]) (rest := []) rfl rfl rfl (by omega) (gv_of J1.1 (by decide) sh452) e2).trans (rb_pop.trans rb_goto))))))) ?_
  exact tail_ok (f := 5) hN hi hE (by omega) J2 R2
/-- both answer the same -/
theorem case_Q0 {bk h w bg : Nat} (hN : N ≤ 3072) (hE : PE N E) (hb : tget 7 (ct_L_law N) bk = ([op_ld isA 1, op_call (gV 10) h 1 0 600000, op_ld isA 2, op_call (gV 11) w 1 0 600000], tm_icmp bg 71 bg)) (h1 : CalX (runM 200) E h 0 false false [vR 0]) (h2 : CalX (runM 200) E w 0 false false [vR 452]) (hq : ∀ M M1 M2 x1 x2 S1 L1 S2 L2 z1 z2, JI M → RJ M → JI M1 → RJ M1 → runM 200 h E 466 [vR 0] M = some [((0, 0), E, vI x1, S1, L1, M1, 466, z1)] → runM 200 w E 466 [vR 452] M1 = some [((0, 0), E, vI x2, S2, L2, M2, 466, z2)] → x1 = x2) : CaseOK (runM 200) N E bk := by
  intro i z a b c d M hi hz hJ hl
  obtain ⟨v1, S1, L1, M1, z1, e1, an1, J1, k1⟩ := h1 M hJ
  obtain ⟨v2, S2, L2, M2, z2, e2, an2, J2, k2⟩ := h2 M1 J1
  obtain ⟨x1, rfl⟩ := ans0 an1
  obtain ⟨x2, rfl⟩ := ans0 an2
  have R1 : RJ M1 := rj_two hl k1 (M2 := M1) ⟨⟨rfl, rfl, fun _ => rfl, fun _ => rfl⟩, rfl, rfl, fun _ _ _ _ p q => ⟨p, q⟩⟩
  have e9 : x1 = x2 := hq M M1 M2 x1 x2 S1 L1 S2 L2 z1 z2 hJ hl J1 R1 e1 e2
  refine okEq ((rF9a hb).trans ((rb_ld rfl).trans ((rb_call (as := [vR 0]) (rest := []) rfl rfl rfl (by omega) (gv_of hJ.1 (by decide) sh_0) e1).trans ((rb_ld rfl).trans ((rb_call (as := [vR 452]) (rest := [vI x1]) rfl rfl rfl (by omega) (gv_of J1.1 (by decide) sh452) e2).trans (rb_icmp.trans (c3_same (by rw [e9])))))))) ?_
  exact tail_ok (f := 5) hN hi hE (by omega) J2 (rj_two hl k1 k2)
theorem cnt_q {M M1 M2 : Mem} {x1 x2 : Nat} {S1 L1 S2 L2 : List AV} {z1 z2 : Nat} (hJ : JI M) (J1 : JI M1) (R1 : RJ M1) (e1 : runM 200 105 E 466 [vR 0] M = some [((0, 0), E, vI x1, S1, L1, M1, 466, z1)]) (e2 : runM 200 263 E 466 [vR 452] M1 = some [((0, 0), E, vI x2, S2, L2, M2, 466, z2)]) : x1 = x2 := by
  obtain ⟨r1, r2⟩ := vcall (E := E) hJ.1 wl_1 (v_cntE (D := 194)) e1
  obtain ⟨r3, -⟩ := vcall (E := E) J1.1 wl_1 (v_cntER (D := 193)) e2
  have r1 : vI x1 = vI (rN M 7 2) := r1
  have r3 : vI x2 = vI (rN M1 453 0) := r3
  injection r1 with r1
  injection r3 with r3
  rw [r1, r3, ← (JX_cnt J1.1 R1.2).1]
  exact (r2 7 (by decide) 2).symm
theorem cnv_q {M M1 M2 : Mem} {x1 x2 : Nat} {S1 L1 S2 L2 : List AV} {z1 z2 : Nat} (hJ : JI M) (J1 : JI M1) (R1 : RJ M1) (e1 : runM 200 106 E 466 [vR 0] M = some [((0, 0), E, vI x1, S1, L1, M1, 466, z1)]) (e2 : runM 200 264 E 466 [vR 452] M1 = some [((0, 0), E, vI x2, S2, L2, M2, 466, z2)]) : x1 = x2 := by
  obtain ⟨r1, r2⟩ := vcall (E := E) hJ.1 wl_1 (v_cntV (D := 194)) e1
  obtain ⟨r3, -⟩ := vcall (E := E) J1.1 wl_1 (v_cntVR (D := 193)) e2
  have r1 : vI x1 = vI (rN M 7 3) := r1
  have r3 : vI x2 = vI (rN M1 453 1) := r3
  injection r1 with r1
  injection r3 with r3
  rw [r1, r3, ← (JX_cnt J1.1 R1.2).2]
  exact (r2 7 (by decide) 3).symm
end CASE4
def allQ {α : Type} (P : α → Prop) : List α → Prop
  | [] => True
  | a :: l => P a ∧ allQ P l
theorem allQ_mem {α : Type} {P : α → Prop} : ∀ {l : List α}, allQ P l → ∀ a ∈ l, P a := by
  intro l
  induction l with
  | nil => intro _ a h; cases h
  | cons b l ih =>
    intro h a hm
    rcases List.mem_cons.mp hm with e | e
    · rw [e]; exact h.1
    · exact ih h.2 a e
theorem nthN_mem : ∀ (ts : List Nat) (d i : Nat), nthN ts d i ∈ ts ∨ nthN ts d i = d := by
  intro ts
  induction ts with
  | nil => intro d i; exact Or.inr rfl
  | cons t ts ih =>
    intro d i
    cases i with
    | zero => exact Or.inl List.mem_cons_self
    | succ i => exact (ih d i).imp (List.mem_cons_of_mem _) id
theorem cases_sw {N : Nat} {E : Env9} (hN : N ≤ 3072) (hE : PE N E) : allQ (CaseOK (runM 200) N E) swT := And.intro (app_no (bk := 4) rfl hN hE) (And.intro (tru_no (bk := 5) rfl hN hE) (And.intro (case_B0p (bk := 6) (h := 347) (w := 252) (bud := 7) hN hE rfl (by decide) (fun M hJ hR => th2_load hJ hR)) (And.intro (cs_7 hN hE) (And.intro (cs_8 hN hE) (And.intro (cs_9 hN hE) (And.intro (cs_10 hN hE) (And.intro (cs_11 hN hE) (And.intro (cs_12 hN hE) (And.intro (cs_13 hN hE) (And.intro (cs_14 hN hE) (And.intro (cs_15 hN hE) (And.intro (cs_16 hN hE) (And.intro (cs_17 hN hE) (And.intro (cs_18 hN hE) (And.intro (cs_19 hN hE) (And.intro (cs_20 hN hE) (And.intro (cs_21 hN hE) (And.intro (cs_22 hN hE) (And.intro (cs_23 hN hE) (And.intro (cmp1 (y := 357) (w := 278) (bk := 24) (b6 := 26) (b7 := 27) (b9 := 29) (bf := 25) (bg := 28) rfl rfl rfl rfl hN hE (fun M x hJ hl hx => th3_q hJ hl hx)) (And.intro (cs_30 hN hE) (And.intro (cs_31 hN hE) (And.intro (cs_32 hN hE) (And.intro (cs_33 hN hE) (And.intro (cs_34 hN hE) (And.intro (cs_35 hN hE) (And.intro (cs_36 hN hE) (And.intro (cs_37 hN hE) (And.intro (cs_38 hN hE) (And.intro (cs_39 hN hE) (And.intro (cs_40 hN hE) (And.intro (cs_41 hN hE) (And.intro (cs_42 hN hE) (And.intro (cs_43 hN hE) (And.intro (cs_44 hN hE) (And.intro (cs_45 hN hE) (And.intro (cs_46 hN hE) (And.intro (cs_47 hN hE) (And.intro (cs_48 hN hE) (And.intro (cs_49 hN hE) (And.intro (cs_50 hN hE) (And.intro (cs_51 hN hE) (And.intro (cs_52 hN hE) (And.intro (cs_53 hN hE) (And.intro (cs_54 hN hE) (And.intro (cs_55 hN hE) (And.intro (cs_56 hN hE) (And.intro (cs_57 hN hE) (And.intro (cs_58 hN hE) (And.intro (cs_59 hN hE) (And.intro (cs_60 hN hE) (And.intro (cs_61 hN hE) (And.intro (cs_62 hN hE) (And.intro (cs_63 hN hE) (And.intro (cs_64 hN hE) (And.intro (cs_65 hN hE) (And.intro (cs_66 hN hE) (And.intro (case_C0p (bk := 67) (h := 157) (w := 329) hN hE rfl (fun M hJ hR => th2_save hJ hR)) (And.intro (case_B0p (bk := 68) (h := 385) (w := 330) (bud := 7) hN hE rfl (by decide) (fun M hJ hR => th2_rest hJ hR)) (And.intro (cs_69 hN hE) (And.intro (cs_70 hN hE) (trivial))))))))))))))))))))))))))))))))))))))))))))))))))))))))))))))
theorem case_all {N : Nat} {E : Env9} (hN : N ≤ 3072) (hE : PE N E) (i : Nat) : CaseOK (runM 200) N E (nthN swT swD i) := by
  rcases nthN_mem swT swD i with h | h
  · exact allQ_mem (cases_sw hN hE) _ h
  · rw [h]
    exact case_D hN hE
