/-! append, truncate, load: class and reference one after the other, on views -/
theorem vcall {E : Env9} {y : Nat} {as S L : List AV} {v v0 : AV} {M M' : Mem} {z : Nat} {e0 : Nat × Nat} {g : Vw} (hT : TI kd0 sh0 rt0 bd0 M) (hw : WL as) (hv : vM MT0 195 y as (rN M) = some (e0, v0, g)) (e : runM 200 y E 466 as M = some [((0, 0), E, v, S, L, M', 466, z)]) : v = v0 ∧ ∀ k, k < 466 → ∀ i, rN M' k i = g k i := by
  obtain ⟨v', S', L', M'', z', e', hv', -, hf⟩ := vM_ok (E := E) 195 200 (by decide) y as (rN M) M (e0, v0, g) hw (TS_of hT) (fun _ _ _ => rfl) hv
  rw [e] at e'
  injection e' with e1
  injection e1 with e2
  injection e2 with a1 a2
  injection a2 with a3 a4
  injection a4 with a5 a6
  injection a6 with a7 a8
  injection a8 with a9 b1
  injection b1 with b2 b3
  subst b2
  exact ⟨a5.trans (hv' (congrArg Prod.fst a1.symm)).1, hf⟩
theorem sl_465 : ∃ N, sh0 (kd0 465) = .inr (.inr (.inr N)) ∧ 0 < N := ⟨_, rfl, by decide⟩
theorem rn_out {M : Mem} (hT : TI kd0 sh0 rt0 bd0 M) : rdI M 465 0 = lsg (rN M 465 0) := by
  obtain ⟨N, h1, h2⟩ := sl_465
  obtain ⟨xs, e1, e2, e3⟩ := co_lng hT (by decide) h1
  obtain ⟨y, hy⟩ := e3 0 h2
  have a : rdI M 465 0 = avJ (nth xs 0) := by
    show rdC (tget 9 M 465) 0 = _
    rw [e1]
    rfl
  have b : rN M 465 0 = rN1 (nth xs 0) := by
    show rNc (tget 9 M 465) 0 = _
    rw [e1]
    rfl
  rw [a, b, hy]
  rfl
theorem lj_345 : lcJ cl_345 0 = true := by decide +kernel
theorem lj_346 : lcJ cl_346 0 = true := by decide +kernel
theorem lj_347 : lcJ cl_347 0 = true := by decide +kernel
theorem lj_226 : lcJ ct_147 0 = true := by decide +kernel
theorem lj_227 : lcJ ct_148 0 = true := by decide +kernel
theorem lj_252 : lcJ ctLoad 0 = true := by decide +kernel
/-- a call of the class's, one of the reference's -/
def Th3 (E : Env9) (y : Nat) (as : List AV) (w : Nat) (bs : List AV) (M : Mem) : Prop := ∃ (x1 x2 : Nat) (S1 L1 : List AV) (M1 : Mem) (z1 : Nat) (S2 L2 : List AV) (M2 : Mem) (z2 : Nat), runM 200 y E 466 as M = some [((0, 0), E, vI x1, S1, L1, M1, 466, z1)] ∧ JI M1 ∧ runM 200 w E 466 bs M1 = some [((0, 0), E, vI x2, S2, L2, M2, 466, z2)] ∧ JI M2 ∧ RB M2
theorem wl_1 {a : Nat} : WL [vR a] := wl_k (v := vR a) trivial vwl_0
theorem th3_of {E : Env9} {y w : Nat} {as bs : List AV} {M M1 M2 : Mem} {x1 x2 z1 z2 : Nat} {S1 L1 S2 L2 : List AV} (e1 : runM 200 y E 466 as M = some [((0, 0), E, vI x1, S1, L1, M1, 466, z1)]) (J1 : JI M1) (e2 : runM 200 w E 466 bs M1 = some [((0, 0), E, vI x2, S2, L2, M2, 466, z2)]) (J2 : JI M2) (hR : RB M2) (_ : x1 < 4294967296) (_ : rN M2 452 6 = x1) (_ : x1 = 0 → rdI M2 465 0 = sg x2) : Th3 E y as w bs M := ⟨x1, x2, S1, L1, M1, z1, S2, L2, M2, z2, e1, J1, e2, J2, hR⟩
theorem txC_M {M : Mem} (hT : TI kd0 sh0 rt0 bd0 M) : TxC (rN M) (rN M 1 1) (bt (rN M)) := ⟨len9 hT, rfl, fun _ => rfl, bt_lt _, fun i hi => if_neg (by omega)⟩
theorem txR_M {M M1 : Mem} (hT : TI kd0 sh0 rt0 bd0 M) (hR : RB M) (h1 : rN M1 452 16 = rN M 452 16) (h2 : ∀ i, rN M1 462 i = rN M 462 i) : TxR (rN M1) (rN M 1 1) (bt (rN M)) := by
  refine ⟨len9 hT, h1.trans hR.1.symm, fun i => ?_, bt_lt _, fun i hi => if_neg (by omega)⟩
  unfold btR bt
  rw [h1, ← hR.1]
  by_cases q : i < rN M 1 1
  · rw [if_pos q, if_pos q, h2]
    exact (hR.2 i q).symm
  · rw [if_neg q, if_neg q]
theorem lsg_out (c : Nat) : lsg (toNL (nI c).toInt64) = sg c := lsg_i2l c
/-! truncate -/
theorem wli9 {x : Nat} {l : List AV} (hx : x < 4294967296) (h : WL l) : WL (vI x :: l) := wl_k (v := vI x) hx h
theorem wlr9 {x : Nat} {l : List AV} (h : WL l) : WL (vR x :: l) := wl_k (v := vR x) trivial h
theorem th3_tru {E : Env9} {M : Mem} (hJ : JI M) (hR : RB M) {x : Nat} (hx : x < 4294967296) : Th3 E 346 [vR 0, vI x, vR 465] 227 [vR 452, vI x] M := by
  obtain ⟨v1, S1, L1, M1, z1, e1, -, J1, K1⟩ := calG9_of (kl_346 (Ev := E) 200 (by decide)) lj_346 (show asOK kd0 cl_346.1 [vR 0, vI x, vR 465] from ⟨a0, aFull x hx, a465, trivial⟩) M hJ
  obtain ⟨v2, S2, L2, M2, z2, e2, -, J2, K2⟩ := calG9_of (cc_148 (Ev := E) 200 (by decide)) lj_227 (show asOK kd0 ct_148.1 [vR 452, vI x] from ⟨a452, aFull x hx, trivial⟩) M1 J1
  have w1 : WL [vR 0, vI x, vR 465] := wlr9 (wli9 hx wl_1)
  have w2 : WL [vR 452, vI x] := wlr9 (wli9 hx vwl_0)
  obtain ⟨a1, a2⟩ := v_LtruC (D := 193) (f := rN M) (len9 hJ.1) hx
  by_cases k : x ≤ rN M 1 1
  · obtain ⟨r1, r2⟩ := vcall (E := E) hJ.1 w1 (a1 k) e1
    have h16 : rN M1 452 16 = rN M 1 1 := (r2 452 (by decide) 16).trans ((vup_ne (Or.inl (by decide))).trans ((vup_ne (Or.inl (by decide))).trans hR.1.symm))
    obtain ⟨r3, r4⟩ := vcall (E := E) J1.1 w2 ((v_truR (D := 193) (f := rN M1) (by rw [h16]; exact len9 hJ.1) hx).1 (by rw [h16]; exact k)) e2
    have r1 : v1 = vI 0 := r1
    have r3 : v2 = vI x := r3
    subst r1
    subst r3
    have o1 : ∀ a b, a ≠ 452 → a < 466 → rN M2 a b = rN M1 a b := fun a b w ha => (r4 a ha b).trans ((vup_ne (Or.inl w)).trans (vup_ne (Or.inl w)))
    have o2 : ∀ a b, a ≠ 465 → a ≠ 1 → a < 466 → rN M1 a b = rN M a b := fun a b w w2 ha => (r2 a ha b).trans ((vup_ne (Or.inl w)).trans (vup_ne (Or.inl w2)))
    have n1 : rN M2 1 1 = x := (o1 1 1 (by decide) (by decide)).trans ((r2 1 (by decide) 1).trans ((vup_ne (Or.inl (by decide))).trans vup_eq))
    refine th3_of e1 J1 e2 J2 ⟨n1.trans ((r4 452 (by decide) 16).trans vup_eq).symm, fun i hi => ?_⟩ (by decide) ((r4 452 (by decide) 6).trans ((vup_ne (Or.inr (by decide))).trans vup_eq)) (fun _ => ?_)
    · rw [n1] at hi
      rw [o1 2 i (by decide) (by decide), o2 2 i (by decide) (by decide) (by decide), o1 462 i (by decide) (by decide), o2 462 i (by decide) (by decide) (by decide)]
      exact hR.2 i (by omega)
    · rw [rn_out J2.1, o1 465 0 (by decide) (by decide), r2 465 (by decide) 0]
      exact (congrArg lsg (show outV x (vup (rN M) 1 1 x) 465 0 = _ from vup_eq)).trans (lsg_out _)
  · obtain ⟨r1, r2⟩ := vcall (E := E) hJ.1 w1 (a2 k) e1
    have h16 : rN M1 452 16 = rN M 1 1 := (r2 452 (by decide) 16).trans hR.1.symm
    obtain ⟨r3, r4⟩ := vcall (E := E) J1.1 w2 ((v_truR (D := 193) (f := rN M1) (by rw [h16]; exact len9 hJ.1) hx).2 (by rw [h16]; exact k)) e2
    have r1 : v1 = vI 1 := r1
    have r3 : v2 = vI 0 := r3
    subst r1
    subst r3
    have o : ∀ a b, (a ≠ 452 ∨ b ≠ 6) → a < 466 → rN M2 a b = rN M a b := fun a b w ha => (r4 a ha b).trans ((vup_ne w).trans (r2 a ha b))
    refine th3_of e1 J1 e2 J2 ⟨?_, fun i hi => ?_⟩ (by decide) ((r4 452 (by decide) 6).trans vup_eq) (fun w => absurd w (by decide))
    · rw [o 1 1 (Or.inl (by decide)) (by decide), o 452 16 (Or.inr (by decide)) (by decide)]
      exact hR.1
    · rw [o 1 1 (Or.inl (by decide)) (by decide)] at hi
      rw [o 2 i (Or.inl (by decide)) (by decide), o 462 i (Or.inl (by decide)) (by decide)]
      exact hR.2 i hi
/-! append -/
theorem ishr_0 (v : Nat) : g_ishr v 0 = v % 4294967296 := by
  unfold g_ishr
  have e : nI v >>> (nI 0 &&& 31) = nI v := by
    apply Int32.toBitVec_inj.mp
    rw [show (nI 0 &&& 31 : Int32) = 0 from by decide]
    simp
  rw [e]
  show (nI v).toUInt32.toNat = _
  exact toN_nI9 v
theorem l4_255 (v : Nat) : ∀ i, i < 4 → g_iand (cb (nthN (l4c v) 0 i)) 255 = nthN (l4r v) 0 i := by
  intro i hi
  rcases (show i = 0 ∨ i = 1 ∨ i = 2 ∨ i = 3 by omega) with rfl | rfl | rfl | rfl
  · exact cb_255 _
  · exact cb_255 _
  · exact cb_255 _
  · refine (cb_255 v).trans ?_
    show g_iand v 255 = g_iand (g_ishr v 0) 255
    rw [iand255, iand255, ishr_0]
    omega
theorem nthN_app : ∀ (l m : List Nat) (i : Nat), nthN (l ++ m) 0 i = if i < l.length then nthN l 0 i else nthN m 0 (i - l.length) := by
  intro l
  induction l with
  | nil => intro m i; rfl
  | cons x l ih =>
    intro m i
    cases i with
    | zero => rfl
    | succ i =>
      show nthN (l ++ m) 0 i = if i + 1 < l.length + 1 then nthN l 0 i else nthN m 0 (i + 1 - (l.length + 1))
      rw [ih m i]
      by_cases q : i < l.length
      · rw [if_pos q, if_pos (by omega)]
      · rw [if_neg q, if_neg (by omega), show i + 1 - (l.length + 1) = i - l.length by omega]
theorem l20_255 (a b c d e : Nat) : ∀ i, i < 20 → g_iand (cb (nthN (lc20 a b c d e) 0 i)) 255 = nthN (lr20 a b c d e) 0 i := by
  intro i hi
  have lc : ∀ v, (l4c v).length = 4 := fun _ => rfl
  have lr : ∀ v, (l4r v).length = 4 := fun _ => rfl
  unfold lc20 lr20
  rw [nthN_app (l4c a), nthN_app (l4r a), lc, lr]
  by_cases q1 : i < 4
  · rw [if_pos q1, if_pos q1]
    exact l4_255 a i q1
  rw [if_neg q1, if_neg q1, nthN_app (l4c b), nthN_app (l4r b), lc, lr]
  by_cases q2 : i - 4 < 4
  · rw [if_pos q2, if_pos q2]
    exact l4_255 b _ q2
  rw [if_neg q2, if_neg q2, nthN_app (l4c c), nthN_app (l4r c), lc, lr]
  by_cases q3 : i - 4 - 4 < 4
  · rw [if_pos q3, if_pos q3]
    exact l4_255 c _ q3
  rw [if_neg q3, if_neg q3, nthN_app (l4c d), nthN_app (l4r d), lc, lr]
  by_cases q4 : i - 4 - 4 - 4 < 4
  · rw [if_pos q4, if_pos q4]
    exact l4_255 d _ q4
  rw [if_neg q4, if_neg q4]
  exact l4_255 e _ (by omega)
theorem th3_app {E : Env9} {M : Mem} (hJ : JI M) (hR : RB M) {a b c d e : Nat} (ha : a < 4294967296) (hb : b < 4294967296) (hc : c < 4294967296) (hd : d < 4294967296) (he : e < 4294967296) : Th3 E 345 [vR 0, vI a, vI b, vI c, vI d, vI e, vR 465] 226 [vR 452, vI a, vI b, vI c, vI d, vI e] M := by
  obtain ⟨v1, S1, L1, M1, z1, e1, -, J1, K1⟩ := calG9_of (kl_345 (Ev := E) 200 (by decide)) lj_345 (show asOK kd0 cl_345.1 [vR 0, vI a, vI b, vI c, vI d, vI e, vR 465] from ⟨a0, aFull a ha, aFull b hb, aFull c hc, aFull d hd, aFull e he, a465, trivial⟩) M hJ
  obtain ⟨v2, S2, L2, M2, z2, e2, -, J2, K2⟩ := calG9_of (cc_147 (Ev := E) 200 (by decide)) lj_226 (show asOK kd0 ct_147.1 [vR 452, vI a, vI b, vI c, vI d, vI e] from ⟨a452, aFull a ha, aFull b hb, aFull c hc, aFull d hd, aFull e he, trivial⟩) M1 J1
  have w1 : WL [vR 0, vI a, vI b, vI c, vI d, vI e, vR 465] := wlr9 (wli9 ha (wli9 hb (wli9 hc (wli9 hd (wli9 he wl_1)))))
  have w2 : WL [vR 452, vI a, vI b, vI c, vI d, vI e] := wlr9 (wli9 ha (wli9 hb (wli9 hc (wli9 hd (wli9 he vwl_0)))))
  have hn := len9 hJ.1
  obtain ⟨a1, a2⟩ := v_LappC (D := 191) (a := a) (b := b) (c := c) (d := d) (e := e) (f := rN M) hn
  have lc : (lc20 a b c d e).length = 20 := rfl
  have lr : (lr20 a b c d e).length = 20 := rfl
  by_cases k : rN M 1 1 + 20 ≤ 900
  · obtain ⟨r1, r2⟩ := vcall (E := E) hJ.1 w1 (a1 k) e1
    have h16 : rN M1 452 16 = rN M 1 1 := (r2 452 (by decide) 16).trans ((vup_ne (Or.inl (by decide))).trans ((abL_o _ _ _ _ (by decide) (by decide)).trans hR.1.symm))
    obtain ⟨r3, r4⟩ := vcall (E := E) J1.1 w2 ((v_appR (D := 193) (f := rN M1) (by rw [h16]; exact hn)).1 (by rw [h16]; exact k)) e2
    have r1 : v1 = vI 0 := r1
    have r3 : v2 = vI (rN M1 452 16 + 20) := r3
    subst r1
    subst r3
    have h0 : vup (rN M1) 452 6 0 452 16 = rN M 1 1 := (vup_ne (Or.inr (by decide))).trans h16
    have o1 : ∀ x y, x ≠ 452 → x ≠ 462 → x < 466 → rN M2 x y = rN M1 x y := fun x y w u hx => (r4 x hx y).trans ((arL_o _ _ _ _ w u).trans (vup_ne (Or.inl w)))
    have n1 : rN M2 1 1 = rN M 1 1 + 20 := (o1 1 1 (by decide) (by decide) (by decide)).trans ((r2 1 (by decide) 1).trans ((vup_ne (Or.inl (by decide))).trans ((abL_n _ _).trans (by rw [lc]))))
    have n2 : rN M2 452 16 = rN M 1 1 + 20 := (r4 452 (by decide) 16).trans ((arL_n _ _).trans (by rw [lr, h0]))
    refine th3_of e1 J1 e2 J2 ⟨n1.trans n2.symm, fun i hi => ?_⟩ (by decide) ?_ (fun _ => ?_)
    · rw [n1] at hi
      have c2 : rN M2 2 i = if rN M 1 1 ≤ i ∧ i < rN M 1 1 + 20 then cb (nthN (lc20 a b c d e) 0 (i - rN M 1 1)) else rN M 2 i := (o1 2 i (by decide) (by decide) (by decide)).trans ((r2 2 (by decide) i).trans ((vup_ne (Or.inl (by decide))).trans (abL_at _ _ i)))
      have c4 : rN M2 462 i = if rN M 1 1 ≤ i ∧ i < rN M 1 1 + 20 then nthN (lr20 a b c d e) 0 (i - rN M 1 1) else rN M1 462 i := (r4 462 (by decide) i).trans ((arL_at _ _ i).trans (by rw [h0, lr, vup_ne (f := rN M1) (show (462 : Nat) ≠ 452 ∨ i ≠ 6 from Or.inl (by decide))]))
      have c5 : rN M1 462 i = rN M 462 i := (r2 462 (by decide) i).trans ((vup_ne (Or.inl (by decide))).trans (abL_o _ _ _ _ (by decide) (by decide)))
      rw [c2, c4, c5]
      by_cases q : rN M 1 1 ≤ i ∧ i < rN M 1 1 + 20
      · rw [if_pos q, if_pos q]
        exact l20_255 a b c d e _ (by omega)
      · rw [if_neg q, if_neg q]
        exact hR.2 i (by omega)
    · refine (r4 452 (by decide) 6).trans ?_
      have : ∀ (l : List Nat) (f : Vw), arL f l 452 6 = f 452 6 := by
        intro l
        induction l with
        | nil => intro f; rfl
        | cons x l ih => intro f; exact (ih (ar1 f x)).trans ((vup_ne (Or.inr (by decide))).trans (vup_ne (Or.inl (by decide))))
      exact (this _ _).trans vup_eq
    · rw [rn_out J2.1, o1 465 0 (by decide) (by decide) (by decide), r2 465 (by decide) 0]
      refine (congrArg lsg (show outV (rN M 1 1 + 20) (abL (rN M) (lc20 a b c d e)) 465 0 = _ from vup_eq)).trans ?_
      rw [h16]
      exact lsg_out _
  · obtain ⟨r1, r2⟩ := vcall (E := E) hJ.1 w1 (a2 k) e1
    have h16 : rN M1 452 16 = rN M 1 1 := (r2 452 (by decide) 16).trans hR.1.symm
    obtain ⟨r3, r4⟩ := vcall (E := E) J1.1 w2 ((v_appR (D := 193) (f := rN M1) (by rw [h16]; exact hn)).2 (by rw [h16]; exact k)) e2
    have r1 : v1 = vI 1 := r1
    have r3 : v2 = vI 0 := r3
    subst r1
    subst r3
    have o : ∀ x y, (x ≠ 452 ∨ y ≠ 6) → x < 466 → rN M2 x y = rN M x y := fun x y w hx => (r4 x hx y).trans ((vup_ne w).trans (r2 x hx y))
    refine th3_of e1 J1 e2 J2 ⟨?_, fun i hi => ?_⟩ (by decide) ((r4 452 (by decide) 6).trans vup_eq) (fun w => absurd w (by decide))
    · rw [o 1 1 (Or.inl (by decide)) (by decide), o 452 16 (Or.inr (by decide)) (by decide)]
      exact hR.1
    · rw [o 1 1 (Or.inl (by decide)) (by decide)] at hi
      rw [o 2 i (Or.inl (by decide)) (by decide), o 462 i (Or.inl (by decide)) (by decide)]
      exact hR.2 i hi
