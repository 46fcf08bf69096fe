/-! truncate, append; all cases -/
theorem c3_same {u w : Nat} {a b c : OR} (h : u = w) : c3 u w a b c = b := by
  subst h
  show (Bool.rec (Bool.rec c b (Nat.beq u u)) a (Nat.ble (u + 1) u) : OR) = b
  rw [Nat.beq_refl]
  cases h1 : Nat.ble (u + 1) u with
  | false => rfl
  | true => have := Nat.le_of_ble_eq_true h1; omega
theorem c3_ne {u w : Nat} {a b : OR} (h : u ≠ w) : c3 u w a b a = a := by
  rcases Nat.lt_or_ge u w with q | q
  · show (Bool.rec (Bool.rec a b (Nat.beq u w)) a (Nat.ble (u + 1) w) : OR) = a
    rw [Nat.ble_eq_true_of_le (show u + 1 ≤ w from q)]
  · exact c3_gt (by omega)
section CASE4
variable {N : Nat} {E : Env9}
theorem app_no {bk : Nat} (hb : tget 7 (ct_L_law N) bk = ([op_ld isA 1, op_ld isA 0, op_ld isI 4, op_push (vI 1), op_add, op_sld N, op_ld isA 0, op_ld isI 4, op_push (vI 2), op_add, op_sld N, op_ld isA 0, op_ld isI 4, op_push (vI 3), op_add, op_sld N, op_ld isA 0, op_ld isI 4, op_push (vI 4), op_add, op_sld N, op_ld isA 0, op_ld isI 4, op_push (vI 5), op_add, op_sld N, op_ld isA 3, op_call gS 345 7 7 600000, op_st isI 5, op_ld isA 2, op_ld isA 0, op_ld isI 4, op_push (vI 1), op_add, op_sld N, op_ld isA 0, op_ld isI 4, op_push (vI 2), op_add, op_sld N, op_ld isA 0, op_ld isI 4, op_push (vI 3), op_add, op_sld N, op_ld isA 0, op_ld isI 4, op_push (vI 4), op_add, op_sld N, op_ld isA 0, op_ld isI 4, op_push (vI 5), op_add, op_sld N, op_call (gV 11) 226 6 0 600000, op_st isI 6], tm_goto 67)) (hN : N ≤ 3072) (hE : PE N E) : CaseOK (runM 200) N E bk := by
  intro i z a b c d M hi hz hJ hl
  obtain ⟨p0, h0, q0⟩ := hE (i + 1) (by omega)
  obtain ⟨p1, h1, q1⟩ := hE (i + 2) (by omega)
  obtain ⟨p2, h2, q2⟩ := hE (i + 3) (by omega)
  obtain ⟨p3, h3, q3⟩ := hE (i + 4) (by omega)
  obtain ⟨p4, h4, q4⟩ := hE (i + 5) (by omega)
  obtain ⟨x1, x2, S1, L1, M1, z1, S2, L2, M2, z2, e1, J1, e2, J2, R2⟩ := th2k_app (E := E) hJ hl h0 h1 h2 h3 h4
  refine okEq ((rF9a hb).trans ((rb_ld rfl).trans ((rb_arg (by omega) (by omega) q0 h0).trans ((rb_arg (by omega) (by omega) q1 h1).trans ((rb_arg (by omega) (by omega) q2 h2).trans ((rb_arg (by omega) (by omega) q3 h3).trans ((rb_arg (by omega) (by omega) q4 h4).trans ((rb_ld rfl).trans ((rb_call (as := [vR 0, vI p0, vI p1, vI p2, vI p3, vI p4, vR 465]) (rest := []) rfl rfl rfl (by omega) rfl e1).trans (rb_st5.trans ((rb_ld rfl).trans ((rb_arg (by omega) (by omega) q0 h0).trans ((rb_arg (by omega) (by omega) q1 h1).trans ((rb_arg (by omega) (by omega) q2 h2).trans ((rb_arg (by omega) (by omega) q3 h3).trans ((rb_arg (by omega) (by omega) q4 h4).trans ((rb_call (as := [vR 452, vI p0, vI p1, vI p2, vI p3, vI p4]) (rest := []) rfl rfl rfl (by omega) (gv_of J1.1 (by decide) sh452) e2).trans (rb_st6.trans rb_goto)))))))))))))))))) ?_
  exact tail_ok (f := 5) hN hi hE (by omega) J2 R2
theorem tru_no {bk : Nat} (hb : tget 7 (ct_L_law N) bk = ([op_ld isA 1, op_ld isA 0, op_ld isI 4, op_push (vI 1), op_add, op_sld N, op_ld isA 3, op_call gS 346 3 7 600000, op_st isI 5, op_ld isA 2, op_ld isA 0, op_ld isI 4, op_push (vI 1), op_add, op_sld N, op_call (gV 11) 227 2 0 600000, op_st isI 6], tm_goto 67)) (hN : N ≤ 3072) (hE : PE N E) : CaseOK (runM 200) N E bk := by
  intro i z a b c d M hi hz hJ hl
  obtain ⟨p0, h0, q0⟩ := hE (i + 1) (by omega)
  obtain ⟨x1, x2, S1, L1, M1, z1, S2, L2, M2, z2, e1, J1, e2, J2, R2⟩ := th2k_tru (E := E) hJ hl h0
  refine okEq ((rF9a hb).trans ((rb_ld rfl).trans ((rb_arg (by omega) (by omega) q0 h0).trans ((rb_ld rfl).trans ((rb_call (as := [vR 0, vI p0, vR 465]) (rest := []) rfl rfl rfl (by omega) rfl e1).trans (rb_st5.trans ((rb_ld rfl).trans ((rb_arg (by omega) (by omega) q0 h0).trans ((rb_call (as := [vR 452, vI p0]) (rest := []) rfl rfl rfl (by omega) (gv_of J1.1 (by decide) sh452) e2).trans (rb_st6.trans rb_goto)))))))))) ?_
  exact tail_ok (f := 5) hN hi hE (by omega) J2 R2
/-- a pair of calls, told together -/
theorem case_B0p {bk h w bud : Nat} (hN : N ≤ 3072) (hE : PE N E) (hb : tget 7 (ct_L_law N) bk = ([op_ld isA 1, op_ld isA 3, op_call gS h 2 bud 600000, op_st isI 5, op_ld isA 2, op_call (gV 11) w 1 0 600000, op_st isI 6], tm_goto 67)) (hbud : bud ≤ 21) (h2 : ∀ M, JI M → RZ M → Th2K E h [vR 0, vR 465] w [vR 452] M) : CaseOK (runM 200) N E bk := by
  intro i z a b c d M hi hz hJ hl
  obtain ⟨x1, x2, S1, L1, M1, z1, S2, L2, M2, z2, e1, J1, e2, J2, R2⟩ := h2 M hJ hl
  refine okEq ((rF9a hb).trans ((rb_ld rfl).trans ((rb_ld rfl).trans ((rb_call (as := [vR 0, vR 465]) (rest := []) rfl rfl rfl (by omega) rfl e1).trans (rb_st5.trans ((rb_ld rfl).trans ((rb_call (as := [vR 452]) (rest := []) rfl rfl rfl (by omega) (gv_of J1.1 (by decide) sh452) e2).trans (rb_st6.trans rb_goto)))))))) ?_
  exact tail_ok (f := 5) hN hi hE (by omega) J2 R2
theorem case_C0p {bk h w : Nat} (hN : N ≤ 3072) (hE : PE N E) (hb : tget 7 (ct_L_law N) bk = ([op_ld isA 1, op_call (gV 10) h 1 0 600000, op_pop, op_ld isA 2, op_call (gV 11) w 1 0 600000, op_pop], tm_goto 67)) (h2 : ∀ M, JI M → RZ M → Th2K E h [vR 0] w [vR 452] M) : CaseOK (runM 200) N E bk := by
  intro i z a b c d M hi hz hJ hl
  obtain ⟨x1, x2, S1, L1, M1, z1, S2, L2, M2, z2, e1, J1, e2, J2, R2⟩ := h2 M hJ hl
  refine okEq ((rF9a hb).trans ((rb_ld rfl).trans ((rb_call (as := [vR 0]) (rest := []) rfl rfl rfl (by omega) (gv_of hJ.1 (by decide) sh_0) e1).trans (rb_pop.trans ((rb_ld rfl).trans ((rb_call (as := [vR 452]) (rest := []) rfl rfl rfl (by omega) (gv_of J1.1 (by decide) sh452) e2).trans (rb_pop.trans rb_goto))))))) ?_
  exact tail_ok (f := 5) hN hi hE (by omega) J2 R2
/-- both answer the same -/
theorem case_Q0 {bk h w bg : Nat} (hN : N ≤ 3072) (hE : PE N E) (hb : tget 7 (ct_L_law N) bk = ([op_ld isA 1, op_call (gV 10) h 1 0 600000, op_ld isA 2, op_call (gV 11) w 1 0 600000], tm_icmp bg 67 bg)) (h1 : CalK (runM 200) E h 0 false false [vR 0]) (h2 : CalK (runM 200) E w 0 false false [vR 452]) (hq : ∀ M M1 M2 x1 x2 S1 L1 S2 L2 z1 z2, JI M → RZ M → JI M1 → RZ M1 → runM 200 h E 466 [vR 0] M = some [((0, 0), E, vI x1, S1, L1, M1, 466, z1)] → runM 200 w E 466 [vR 452] M1 = some [((0, 0), E, vI x2, S2, L2, M2, 466, z2)] → x1 = x2) : CaseOK (runM 200) N E bk := by
  intro i z a b c d M hi hz hJ hl
  obtain ⟨v1, S1, L1, M1, z1, e1, an1, J1, k1⟩ := h1 M hJ
  obtain ⟨v2, S2, L2, M2, z2, e2, an2, J2, k2⟩ := h2 M1 J1
  obtain ⟨x1, rfl⟩ := ans0 an1
  obtain ⟨x2, rfl⟩ := ans0 an2
  have R1 : RZ M1 := rk_two hl k1 (M2 := M1) ⟨⟨⟨rfl, rfl, fun _ => rfl, fun _ => rfl⟩, rfl, rfl, fun _ _ _ _ p q => ⟨p, q⟩⟩, rfl, rfl, rfl, rfl⟩
  have e9 : x1 = x2 := hq M M1 M2 x1 x2 S1 L1 S2 L2 z1 z2 hJ hl J1 R1 e1 e2
  refine okEq ((rF9a hb).trans ((rb_ld rfl).trans ((rb_call (as := [vR 0]) (rest := []) rfl rfl rfl (by omega) (gv_of hJ.1 (by decide) sh_0) e1).trans ((rb_ld rfl).trans ((rb_call (as := [vR 452]) (rest := [vI x1]) rfl rfl rfl (by omega) (gv_of J1.1 (by decide) sh452) e2).trans (rb_icmp.trans (c3_same (by rw [e9])))))))) ?_
  exact tail_ok (f := 5) hN hi hE (by omega) J2 (rk_two hl k1 k2)
end CASE4
def allQ {α : Type} (P : α → Prop) : List α → Prop
  | [] => True
  | a :: l => P a ∧ allQ P l
theorem allQ_mem {α : Type} {P : α → Prop} : ∀ {l : List α}, allQ P l → ∀ a ∈ l, P a := by
  intro l
  induction l with
  | nil => intro _ a h; cases h
  | cons b l ih =>
    intro h a hm
    rcases List.mem_cons.mp hm with e | e
    · rw [e]; exact h.1
    · exact ih h.2 a e
theorem nthN_mem : ∀ (ts : List Nat) (d i : Nat), nthN ts d i ∈ ts ∨ nthN ts d i = d := by
  intro ts
  induction ts with
  | nil => intro d i; exact Or.inr rfl
  | cons t ts ih =>
    intro d i
    cases i with
    | zero => exact Or.inl List.mem_cons_self
    | succ i => exact (ih d i).imp (List.mem_cons_of_mem _) id
theorem cases_sw {N : Nat} {E : Env9} (hN : N ≤ 3072) (hE : PE N E) : allQ (CaseOK (runM 200) N E) swT := And.intro (app_no (bk := 4) rfl hN hE) (And.intro (tru_no (bk := 5) rfl hN hE) (And.intro (case_B0p (bk := 6) (h := 347) (w := 252) (bud := 7) hN hE rfl (by decide) (fun M hJ hR => th2k_load hJ hR)) (And.intro (case_B0p (bk := 7) (h := 348) (w := 259) (bud := 7) hN hE rfl (by decide) (fun M hJ hR => th2k_exec hJ hR)) (And.intro (cs_8 hN hE) (And.intro (case_Q0 (bk := 9) (h := 104) (w := 246) (bg := 10) hN hE rfl (calK_of (cc_49 200 (by decide)) (fun v u v' u' => lift1 (cc_49 200 (by decide)) wx_104) lk_104 ⟨a0, trivial⟩) (calK_of (cc_150 200 (by decide)) (fun v u v' u' => lift1 (cc_150 200 (by decide)) wx_246) lk_246 ⟨a452, trivial⟩) (fun _ _ _ _ _ _ _ _ _ _ _ hJ hl J1 R1 e1 e2 => erp_q hJ hl J1 R1 e1 e2)) (And.intro (cs_11 hN hE) (And.intro (cs_12 hN hE) (And.intro (cs_13 hN hE) (And.intro (cs_14 hN hE) (And.intro (cs_15 hN hE) (And.intro (cs_16 hN hE) (And.intro (cs_17 hN hE) (And.intro (cs_18 hN hE) (And.intro (cs_19 hN hE) (And.intro (cs_20 hN hE) (And.intro (cs_21 hN hE) (And.intro (cs_22 hN hE) (And.intro (cs_23 hN hE) (And.intro (cs_24 hN hE) (And.intro (cs_25 hN hE) (And.intro (cs_26 hN hE) (And.intro (cs_27 hN hE) (And.intro (cs_28 hN hE) (And.intro (cs_29 hN hE) (And.intro (cs_30 hN hE) (And.intro (cs_31 hN hE) (And.intro (cs_32 hN hE) (And.intro (cs_33 hN hE) (And.intro (cs_34 hN hE) (And.intro (cs_35 hN hE) (And.intro (cs_36 hN hE) (And.intro (cs_37 hN hE) (And.intro (cs_38 hN hE) (And.intro (cs_39 hN hE) (And.intro (cs_40 hN hE) (And.intro (cs_41 hN hE) (And.intro (cs_42 hN hE) (And.intro (cs_43 hN hE) (And.intro (cs_44 hN hE) (And.intro (cs_45 hN hE) (And.intro (cs_46 hN hE) (And.intro (cs_47 hN hE) (And.intro (cs_48 hN hE) (And.intro (cs_49 hN hE) (And.intro (cs_50 hN hE) (And.intro (cs_51 hN hE) (And.intro (cs_52 hN hE) (And.intro (cs_53 hN hE) (And.intro (cs_54 hN hE) (And.intro (cs_55 hN hE) (And.intro (cs_56 hN hE) (And.intro (cs_57 hN hE) (And.intro (cs_58 hN hE) (And.intro (cs_59 hN hE) (And.intro (cs_60 hN hE) (And.intro (cs_61 hN hE) (And.intro (cs_62 hN hE) (And.intro (case_C0p (bk := 63) (h := 157) (w := 329) hN hE rfl (fun M hJ hR => th2k_save hJ hR)) (And.intro (case_B0p (bk := 64) (h := 385) (w := 330) (bud := 7) hN hE rfl (by decide) (fun M hJ hR => th2k_rest hJ hR)) (And.intro (cs_65 hN hE) (And.intro (cs_66 hN hE) (trivial))))))))))))))))))))))))))))))))))))))))))))))))))))))))))))))
theorem case_all {N : Nat} {E : Env9} (hN : N ≤ 3072) (hE : PE N E) (i : Nat) : CaseOK (runM 200) N E (nthN swT swD i) := by
  rcases nthN_mem swT swD i with h | h
  · exact allQ_mem (cases_sw hN hE) _ h
  · rw [h]
    exact case_D hN hE
