/-! the reference's lines -/
theorem sk_st {T : Nat → Nat} {n : Nat} (hn : ∀ i, n ≤ i → T i = 4294967295) : ∀ m p, p ≤ n → n < p + m → T (sk T m p) ≠ 32 := by
  intro m
  induction m with
  | zero => intro p h1 h2; omega
  | succ m ih =>
    intro p h1 h2
    by_cases q : T p = 32
    · have hp : p < n := by
        rcases Nat.lt_or_ge p n with w | w
        · exact w
        · rw [hn p w] at q
          cases q
      rw [show sk T (m + 1) p = sk T m (p + 1) from if_pos q]
      exact ih (p + 1) hp (by omega)
    · rw [show sk T (m + 1) p = p from if_neg q]
      exact q
theorem tS_i {T : Nat → Nat} {n p : Nat} (hn9 : n ≤ 900) (hT : ∀ i, n ≤ i → T i = 4294967295) (hp : p ≤ n) : tS T (tS T p) = tS T p := if_neg (sk_st hT 901 p hp (by omega))
theorem tK_i {T : Nat → Nat} {p q : Nat} (h : tS T p = tS T q) : tK T p = tK T q := by
  unfold tK
  rw [h]
theorem tE_i {T : Nat → Nat} {p q : Nat} (h : tS T p = tS T q) : tE T p = tE T q := by
  unfold tE
  rw [tK_i h, h]
theorem tV_i {T : Nat → Nat} {p q : Nat} (h : tS T p = tS T q) : tV T p = tV T q := by
  unfold tV
  rw [tK_i h, h]
theorem tZ_i {T : Nat → Nat} {p q : Nat} (h : tS T p = tS T q) : tZ T p = tZ T q := by
  unfold tZ
  rw [h]
theorem w_i {T : Nat → Nat} {w p q : Nat} (h : tS T p = tS T q) : wOKc T w p ↔ wOKc T w q := by
  unfold wOKc
  rw [tK_i h, tE_i h, h]
theorem nu_i {T : Nat → Nat} {p q lo hi : Nat} (h : tS T p = tS T q) : nuC T p lo hi = nuC T q lo hi := by
  unfold nuC
  rw [tK_i h, tE_i h, tV_i h, h]
theorem lnE_5 {D F c a2 a3 a4 a5 : Nat} {f g0 g1 g2 g3 g4 g5 : Vw} {r : Option VR} (e0 : vM MT0 D 232 [vR 452] f = some ((1, 0), vW 3, g0)) (hg : g0 453 0 = c) (ep : vM MT0 D 239 [vI c, vI 0] g0 = some ((0, 0), vI (23 + 15 * c), g0)) (e1 : vM MT0 D 242 [vR 452, vI (23 + 15 * c), vI 0] g0 = some ((1, 0), vW 3, g1)) (e2 : vM MT0 D 235 [vR 452, vI 1, vI 9] g1 = some ((0, 0), vI a2, g2)) (e3 : vM MT0 D 235 [vR 452, vI 1, vI 9] g2 = some ((0, 0), vI a3, g3)) (e4 : vM MT0 D 235 [vR 452, vI 1, vI 99] g3 = some ((0, 0), vI a4, g4)) (e5 : vM MT0 D 235 [vR 452, vI 0, vI 9] g4 = some ((0, 0), vI a5, g5)) (e6 : vc3 (bv (g5 452 20)) (bv 0) (vFn (vM MT0 D) nb_X11_echoLine F 6 0 [vR 452, vI c, vI a2, vI a3, vI a4, vI a5] [] g5) (vFn (vM MT0 D) nb_X11_echoLine F 7 0 [vR 452, vI c, vI a2, vI a3, vI a4, vI a5] [] g5) (vFn (vM MT0 D) nb_X11_echoLine F 6 0 [vR 452, vI c, vI a2, vI a3, vI a4, vI a5] [] g5) = r) : vFn (vM MT0 D) nb_X11_echoLine (F + 1) 5 0 [vR 452, vW 3, vW 3, vW 3, vW 3, vW 3] [] f = r := by
  obtain ⟨g00, rfl⟩ : ∃ g00, g0 = vup g00 453 0 c := ⟨g0, (vup_id hg).symm⟩
  (first | (refine (vbnd_1 e0).trans ?_) | (refine (vF_g rfl rfl).trans ?_; refine (vF_g rfl rfl).trans ?_; refine (vbnd_1 e0).trans ?_) | (refine (vF_g rfl rfl).trans ?_; refine (vbnd_1 e0).trans ?_))
  (first | (refine (vbnd_0 ep).trans ?_) | (refine (vF_g rfl rfl).trans ?_; refine (vF_g rfl rfl).trans ?_; refine (vbnd_0 ep).trans ?_) | (refine (vF_g rfl rfl).trans ?_; refine (vbnd_0 ep).trans ?_))
  (first | (refine (vbnd_1 e1).trans ?_) | (refine (vF_g rfl rfl).trans ?_; refine (vF_g rfl rfl).trans ?_; refine (vbnd_1 e1).trans ?_) | (refine (vF_g rfl rfl).trans ?_; refine (vbnd_1 e1).trans ?_))
  (first | (refine (vbnd_0 e2).trans ?_) | (refine (vF_g rfl rfl).trans ?_; refine (vF_g rfl rfl).trans ?_; refine (vbnd_0 e2).trans ?_) | (refine (vF_g rfl rfl).trans ?_; refine (vbnd_0 e2).trans ?_))
  (first | (refine (vbnd_0 e3).trans ?_) | (refine (vF_g rfl rfl).trans ?_; refine (vF_g rfl rfl).trans ?_; refine (vbnd_0 e3).trans ?_) | (refine (vF_g rfl rfl).trans ?_; refine (vbnd_0 e3).trans ?_))
  (first | (refine (vbnd_0 e4).trans ?_) | (refine (vF_g rfl rfl).trans ?_; refine (vF_g rfl rfl).trans ?_; refine (vbnd_0 e4).trans ?_) | (refine (vF_g rfl rfl).trans ?_; refine (vbnd_0 e4).trans ?_))
  (first | (refine (vbnd_0 e5).trans ?_) | (refine (vF_g rfl rfl).trans ?_; refine (vF_g rfl rfl).trans ?_; refine (vbnd_0 e5).trans ?_) | (refine (vF_g rfl rfl).trans ?_; refine (vbnd_0 e5).trans ?_))
  (first | (exact e6) | (refine (vF_g rfl rfl).trans ?_; refine (vF_g rfl rfl).trans ?_; exact e6) | (refine (vF_g rfl rfl).trans ?_; exact e6))
noncomputable def prE (c a2 a3 a4 a5 : Nat) (f : Vw) : Vw := vup (vup (vup (vup f 453 (23 + 15 * c + 7) a2) 453 (23 + 15 * c + 8) a3) 453 (23 + 15 * c + 9) a4) 453 (23 + 15 * c + 10) a5
theorem lnE_7 {D F c a2 a3 a4 a5 : Nat} {f : Vw} (hj : c < 12) : vFn (vM MT0 (D + 1)) nb_X11_echoLine (F + 1) 7 0 [vR 452, vI c, vI a2, vI a3, vI a4, vI a5] [] f = some ((1, 0), vW 3, vup (prE c a2 a3 a4 a5 f) 453 0 (((prE c a2 a3 a4 a5 f) 453 0 + 1) % 4294967296)) :=
  (by (first | (refine (vbnd_1 (v_putsE hj (by decide))).trans ?_) | (refine (vF_g rfl rfl).trans ?_; refine (vF_g rfl rfl).trans ?_; refine (vbnd_1 (v_putsE hj (by decide))).trans ?_) | (refine (vF_g rfl rfl).trans ?_; refine (vbnd_1 (v_putsE hj (by decide))).trans ?_)); (first | (refine (vbnd_1 (v_putsE hj (by decide))).trans ?_) | (refine (vF_g rfl rfl).trans ?_; refine (vF_g rfl rfl).trans ?_; refine (vbnd_1 (v_putsE hj (by decide))).trans ?_) | (refine (vF_g rfl rfl).trans ?_; refine (vbnd_1 (v_putsE hj (by decide))).trans ?_)); (first | (refine (vbnd_1 (v_putsE hj (by decide))).trans ?_) | (refine (vF_g rfl rfl).trans ?_; refine (vF_g rfl rfl).trans ?_; refine (vbnd_1 (v_putsE hj (by decide))).trans ?_) | (refine (vF_g rfl rfl).trans ?_; refine (vbnd_1 (v_putsE hj (by decide))).trans ?_)); (first | (refine (vbnd_1 (v_putsE hj (by decide))).trans ?_) | (refine (vF_g rfl rfl).trans ?_; refine (vF_g rfl rfl).trans ?_; refine (vbnd_1 (v_putsE hj (by decide))).trans ?_) | (refine (vF_g rfl rfl).trans ?_; refine (vbnd_1 (v_putsE hj (by decide))).trans ?_)); (first | (exact rfl) | (refine (vF_g rfl rfl).trans ?_; refine (vF_g rfl rfl).trans ?_; exact rfl) | (refine (vF_g rfl rfl).trans ?_; refine (vF_g rfl rfl).trans ?_; refine (vF_g rfl rfl).trans ?_; exact rfl) | (refine (vF_g rfl rfl).trans ?_; exact rfl)))
theorem v_lineE {D : Nat} {n c d p : Nat} {T : Nat → Nat} {E V : Nat → Nat → Nat} {f : Vw} (h : RS n T E V c d p f) (hk : tK T p = 1) : (∃ g p5, vM MT0 (D + 5) 248 [vR 452] (rkv f T p) = some ((1, 0), vW 3, g) ∧ RS n T (ad E c (rwE T (tE T p))) V (c + 1) d p5 g ∧ oEcho T (fun j => E j 0) c (tS T p) (tE T p) = oS T p5 fun p => (0, p)) ∨ (∃ g e q, vM MT0 (D + 5) 248 [vR 452] (rkv f T p) = some ((1, 0), vW 3, g) ∧ ERR e q g ∧ oEcho T (fun j => E j 0) c (tS T p) (tE T p) = (e, q)) := by
  have hr := rs_rkv h
  have e20 : rkv f T p 452 20 = 0 := hr.er.1
  have hn := h.tx.1
  have hE := tE_ge h.tx.2.2.2.2 h.le
  have hz := tZ_E hk
  unfold oEcho
  by_cases hc : 12 ≤ c
  · rw [if_pos hc]
    have hc9 := h.c9
    have m : vM MT0 (D + 4) 230 [vR 452, vI 0, vI 4] (rkv f T p) = some ((1, 0), vW 3, flR 4 (rkv f T p)) := by
      rw [v_must (Or.inl rfl) (by rw [e20]; decide), if_pos ⟨rfl, e20⟩]
    exact Or.inr ⟨_, 4, tS T p, vM_go rfl rfl rfl rfl fun F hF => (by (first | (refine (vge2 (x := rkv f T p 453 0) (y := 12) (by rw [hr.c0]; omega) (by rw [hr.c0]; exact hc)).trans ?_) | (refine (vF_g rfl rfl).trans ?_; refine (vF_g rfl rfl).trans ?_; refine (vge2 (x := rkv f T p 453 0) (y := 12) (by rw [hr.c0]; omega) (by rw [hr.c0]; exact hc)).trans ?_) | (refine (vF_g rfl rfl).trans ?_; refine (vge2 (x := rkv f T p 453 0) (y := 12) (by rw [hr.c0]; omega) (by rw [hr.c0]; exact hc)).trans ?_)); (first | (refine (vbnd_1 m).trans ?_) | (refine (vF_g rfl rfl).trans ?_; refine (vF_g rfl rfl).trans ?_; refine (vbnd_1 m).trans ?_) | (refine (vF_g rfl rfl).trans ?_; refine (vbnd_1 m).trans ?_)); (first | (refine (vne (x := flR 4 (rkv f T p) 452 20) (y := 0) (by rw [flR_20]; decide) (by decide) (by rw [flR_20]; decide)).trans ?_) | (refine (vF_g rfl rfl).trans ?_; refine (vF_g rfl rfl).trans ?_; refine (vne (x := flR 4 (rkv f T p) 452 20) (y := 0) (by rw [flR_20]; decide) (by decide) (by rw [flR_20]; decide)).trans ?_) | (refine (vF_g rfl rfl).trans ?_; refine (vne (x := flR 4 (rkv f T p) 452 20) (y := 0) (by rw [flR_20]; decide) (by decide) (by rw [flR_20]; decide)).trans ?_)); (first | (exact rfl) | (refine (vF_g rfl rfl).trans ?_; refine (vF_g rfl rfl).trans ?_; exact rfl) | (refine (vF_g rfl rfl).trans ?_; refine (vF_g rfl rfl).trans ?_; refine (vF_g rfl rfl).trans ?_; exact rfl) | (refine (vF_g rfl rfl).trans ?_; exact rfl))), err_fl rkv_18 (by decide) (by decide), rfl⟩
  rw [if_neg hc]
  have hj : c < 12 := by omega
  have m : vM MT0 (D + 4) 230 [vR 452, vI 1, vI 4] (rkv f T p) = some ((1, 0), vW 3, rkv f T p) := by
    rw [v_must (Or.inr rfl) (by rw [e20]; decide), if_neg (fun w => by cases w.1)]
  have s0 : ∀ r, (∀ F, vFn (vM MT0 (D + 4)) nb_X11_echoLine (F + 57) 5 0 [vR 452, vW 3, vW 3, vW 3, vW 3, vW 3] [] (rkv f T p) = r) → vM MT0 (D + 5) 248 [vR 452] (rkv f T p) = r := fun r hr9 => vM_go rfl rfl rfl rfl fun F hF => (by (first | (refine (vlt (x := rkv f T p 453 0) (y := 12) (by decide) (by rw [hr.c0]; exact hj)).trans ?_) | (refine (vF_g rfl rfl).trans ?_; refine (vF_g rfl rfl).trans ?_; refine (vlt (x := rkv f T p 453 0) (y := 12) (by decide) (by rw [hr.c0]; exact hj)).trans ?_) | (refine (vF_g rfl rfl).trans ?_; refine (vlt (x := rkv f T p 453 0) (y := 12) (by decide) (by rw [hr.c0]; exact hj)).trans ?_)); (first | (refine (vbnd_1 m).trans ?_) | (refine (vF_g rfl rfl).trans ?_; refine (vF_g rfl rfl).trans ?_; refine (vbnd_1 m).trans ?_) | (refine (vF_g rfl rfl).trans ?_; refine (vbnd_1 m).trans ?_)); (first | (refine (veq e20).trans ?_) | (refine (vF_g rfl rfl).trans ?_; refine (vF_g rfl rfl).trans ?_; refine (veq e20).trans ?_) | (refine (vF_g rfl rfl).trans ?_; refine (veq e20).trans ?_)); (first | (exact (hr9 F)) | (refine (vF_g rfl rfl).trans ?_; refine (vF_g rfl rfl).trans ?_; exact (hr9 F)) | (refine (vF_g rfl rfl).trans ?_; exact (hr9 F))))
  have e0 : vM MT0 (D + 4) 232 [vR 452] (rkv f T p) = some ((1, 0), vW 3, vup (rkv f T p) 452 17 (tE T p)) := by
    rw [v_goesPast, rkv_18, rkv_19, hz, Nat.mod_eq_of_lt (by omega)]
  have r0 : RS n T E V c d (tE T p) (vup (rkv f T p) 452 17 (tE T p)) := rs_past hr hE.2
  generalize vup (rkv f T p) 452 17 (tE T p) = g0 at e0 r0
  have ep := v_placeE (D := D + 3) (j := c) (f := g0) (by omega)
  obtain ⟨w1, w2, w3⟩ := v_newNameE (D := D) r0 hj
  by_cases k1 : nOK T (tE T p)
  rotate_left
  · rw [oNew_2 k1]
    obtain ⟨g, e, hg⟩ := w1 k1
    exact Or.inr ⟨g, 1, _, s0 _ (fun F => lnE_5 e0 r0.c0 ep e (e_number hg) (e_number hg) (e_number hg) (e_number hg) ((by (first | (refine (vne (x := g 452 20) (y := 0) (by rw [hg.1]; exact hg.2.2.2) (by decide) (by rw [hg.1]; exact hg.2.2.1)).trans ?_) | (refine (vF_g rfl rfl).trans ?_; refine (vF_g rfl rfl).trans ?_; refine (vne (x := g 452 20) (y := 0) (by rw [hg.1]; exact hg.2.2.2) (by decide) (by rw [hg.1]; exact hg.2.2.1)).trans ?_) | (refine (vF_g rfl rfl).trans ?_; refine (vne (x := g 452 20) (y := 0) (by rw [hg.1]; exact hg.2.2.2) (by decide) (by rw [hg.1]; exact hg.2.2.1)).trans ?_)); (first | (exact rfl) | (refine (vF_g rfl rfl).trans ?_; refine (vF_g rfl rfl).trans ?_; exact rfl) | (refine (vF_g rfl rfl).trans ?_; refine (vF_g rfl rfl).trans ?_; refine (vF_g rfl rfl).trans ?_; exact rfl) | (refine (vF_g rfl rfl).trans ?_; exact rfl))))), hg, rfl⟩
  by_cases k2 : fidx (fun j => E j 0) (pkr (tN T (tE T p))) c 0 = 4294967295
  rotate_left
  · rw [oNew_1 k1 k2]
    obtain ⟨g, e, hg⟩ := w2 k1 k2
    exact Or.inr ⟨g, 3, _, s0 _ (fun F => lnE_5 e0 r0.c0 ep e (e_number hg) (e_number hg) (e_number hg) (e_number hg) ((by (first | (refine (vne (x := g 452 20) (y := 0) (by rw [hg.1]; exact hg.2.2.2) (by decide) (by rw [hg.1]; exact hg.2.2.1)).trans ?_) | (refine (vF_g rfl rfl).trans ?_; refine (vF_g rfl rfl).trans ?_; refine (vne (x := g 452 20) (y := 0) (by rw [hg.1]; exact hg.2.2.2) (by decide) (by rw [hg.1]; exact hg.2.2.1)).trans ?_) | (refine (vF_g rfl rfl).trans ?_; refine (vne (x := g 452 20) (y := 0) (by rw [hg.1]; exact hg.2.2.2) (by decide) (by rw [hg.1]; exact hg.2.2.1)).trans ?_)); (first | (exact rfl) | (refine (vF_g rfl rfl).trans ?_; refine (vF_g rfl rfl).trans ?_; exact rfl) | (refine (vF_g rfl rfl).trans ?_; refine (vF_g rfl rfl).trans ?_; refine (vF_g rfl rfl).trans ?_; exact rfl) | (refine (vF_g rfl rfl).trans ?_; exact rfl))))), hg, rfl⟩
  rw [oNew_0 k1 k2]
  obtain ⟨g1, e1, r1, nm1⟩ := w3 k1 k2
  obtain ⟨u1, u2⟩ := v_numR (D := D + 1) (lo := 1) (hi := 9) r1 (by decide) (by decide)
  by_cases k3 : nuC T (tE T (tE T p)) 1 9 = 0
  rotate_left
  · rw [oN_1 k3]
    obtain ⟨g, e, hg⟩ := u2 k3
    exact Or.inr ⟨g, _, _, s0 _ (fun F => lnE_5 e0 r0.c0 ep e1 e (e_number hg) (e_number hg) (e_number hg) ((by (first | (refine (vne (x := g 452 20) (y := 0) (by rw [hg.1]; exact hg.2.2.2) (by decide) (by rw [hg.1]; exact hg.2.2.1)).trans ?_) | (refine (vF_g rfl rfl).trans ?_; refine (vF_g rfl rfl).trans ?_; refine (vne (x := g 452 20) (y := 0) (by rw [hg.1]; exact hg.2.2.2) (by decide) (by rw [hg.1]; exact hg.2.2.1)).trans ?_) | (refine (vF_g rfl rfl).trans ?_; refine (vne (x := g 452 20) (y := 0) (by rw [hg.1]; exact hg.2.2.2) (by decide) (by rw [hg.1]; exact hg.2.2.1)).trans ?_)); (first | (exact rfl) | (refine (vF_g rfl rfl).trans ?_; refine (vF_g rfl rfl).trans ?_; exact rfl) | (refine (vF_g rfl rfl).trans ?_; refine (vF_g rfl rfl).trans ?_; refine (vF_g rfl rfl).trans ?_; exact rfl) | (refine (vF_g rfl rfl).trans ?_; exact rfl))))), hg, rfl⟩
  rw [oN_0 k3]
  obtain ⟨g2, e2, r2, f2, v2⟩ := u1 k3
  clear u1 u2
  obtain ⟨u1, u2⟩ := v_numR (D := D + 1) (lo := 1) (hi := 9) r2 (by decide) (by decide)
  by_cases k4 : nuC T (tE T (tE T (tE T p))) 1 9 = 0
  rotate_left
  · rw [oN_1 k4]
    obtain ⟨g, e, hg⟩ := u2 k4
    exact Or.inr ⟨g, _, _, s0 _ (fun F => lnE_5 e0 r0.c0 ep e1 e2 e (e_number hg) (e_number hg) ((by (first | (refine (vne (x := g 452 20) (y := 0) (by rw [hg.1]; exact hg.2.2.2) (by decide) (by rw [hg.1]; exact hg.2.2.1)).trans ?_) | (refine (vF_g rfl rfl).trans ?_; refine (vF_g rfl rfl).trans ?_; refine (vne (x := g 452 20) (y := 0) (by rw [hg.1]; exact hg.2.2.2) (by decide) (by rw [hg.1]; exact hg.2.2.1)).trans ?_) | (refine (vF_g rfl rfl).trans ?_; refine (vne (x := g 452 20) (y := 0) (by rw [hg.1]; exact hg.2.2.2) (by decide) (by rw [hg.1]; exact hg.2.2.1)).trans ?_)); (first | (exact rfl) | (refine (vF_g rfl rfl).trans ?_; refine (vF_g rfl rfl).trans ?_; exact rfl) | (refine (vF_g rfl rfl).trans ?_; refine (vF_g rfl rfl).trans ?_; refine (vF_g rfl rfl).trans ?_; exact rfl) | (refine (vF_g rfl rfl).trans ?_; exact rfl))))), hg, rfl⟩
  rw [oN_0 k4]
  obtain ⟨g3, e3, r3, f3, v3⟩ := u1 k4
  clear u1 u2
  obtain ⟨u1, u2⟩ := v_numR (D := D + 1) (lo := 1) (hi := 99) r3 (by decide) (by decide)
  by_cases k5 : nuC T (tE T (tE T (tE T (tE T p)))) 1 99 = 0
  rotate_left
  · rw [oN_1 k5]
    obtain ⟨g, e, hg⟩ := u2 k5
    exact Or.inr ⟨g, _, _, s0 _ (fun F => lnE_5 e0 r0.c0 ep e1 e2 e3 e (e_number hg) ((by (first | (refine (vne (x := g 452 20) (y := 0) (by rw [hg.1]; exact hg.2.2.2) (by decide) (by rw [hg.1]; exact hg.2.2.1)).trans ?_) | (refine (vF_g rfl rfl).trans ?_; refine (vF_g rfl rfl).trans ?_; refine (vne (x := g 452 20) (y := 0) (by rw [hg.1]; exact hg.2.2.2) (by decide) (by rw [hg.1]; exact hg.2.2.1)).trans ?_) | (refine (vF_g rfl rfl).trans ?_; refine (vne (x := g 452 20) (y := 0) (by rw [hg.1]; exact hg.2.2.2) (by decide) (by rw [hg.1]; exact hg.2.2.1)).trans ?_)); (first | (exact rfl) | (refine (vF_g rfl rfl).trans ?_; refine (vF_g rfl rfl).trans ?_; exact rfl) | (refine (vF_g rfl rfl).trans ?_; refine (vF_g rfl rfl).trans ?_; refine (vF_g rfl rfl).trans ?_; exact rfl) | (refine (vF_g rfl rfl).trans ?_; exact rfl))))), hg, rfl⟩
  rw [oN_0 k5]
  obtain ⟨g4, e4, r4, f4, v4⟩ := u1 k5
  clear u1 u2
  obtain ⟨u1, u2⟩ := v_numR (D := D + 1) (lo := 0) (hi := 9) r4 (by decide) (by decide)
  by_cases k6 : nuC T (tE T (tE T (tE T (tE T (tE T p))))) 0 9 = 0
  rotate_left
  · rw [oN_1 k6]
    obtain ⟨g, e, hg⟩ := u2 k6
    exact Or.inr ⟨g, _, _, s0 _ (fun F => lnE_5 e0 r0.c0 ep e1 e2 e3 e4 e  ((by (first | (refine (vne (x := g 452 20) (y := 0) (by rw [hg.1]; exact hg.2.2.2) (by decide) (by rw [hg.1]; exact hg.2.2.1)).trans ?_) | (refine (vF_g rfl rfl).trans ?_; refine (vF_g rfl rfl).trans ?_; refine (vne (x := g 452 20) (y := 0) (by rw [hg.1]; exact hg.2.2.2) (by decide) (by rw [hg.1]; exact hg.2.2.1)).trans ?_) | (refine (vF_g rfl rfl).trans ?_; refine (vne (x := g 452 20) (y := 0) (by rw [hg.1]; exact hg.2.2.2) (by decide) (by rw [hg.1]; exact hg.2.2.1)).trans ?_)); (first | (exact rfl) | (refine (vF_g rfl rfl).trans ?_; refine (vF_g rfl rfl).trans ?_; exact rfl) | (refine (vF_g rfl rfl).trans ?_; refine (vF_g rfl rfl).trans ?_; refine (vF_g rfl rfl).trans ?_; exact rfl) | (refine (vF_g rfl rfl).trans ?_; exact rfl))))), hg, rfl⟩
  rw [oN_0 k6]
  obtain ⟨g5, e5, r5, f5, v5⟩ := u1 k6
  clear u1 u2
  have fr : ∀ b, g5 453 b = g1 453 b := fun b => (f5 _ _ (by decide)).trans ((f4 _ _ (by decide)).trans ((f3 _ _ (by decide)).trans (f2 _ _ (by decide))))
  have e9 := fun F => lnE_7 (D := D + 3) (F := F + 55) (c := c) (a2 := rwE T (tE T p) 1) (a3 := rwE T (tE T p) 2) (a4 := rwE T (tE T p) 3) (a5 := rwE T (tE T p) 4) (f := g5) hj
  have rp : RS n T E V c d (tE T (tE T (tE T (tE T (tE T (tE T p)))))) (prE c (rwE T (tE T p) 1) (rwE T (tE T p) 2) (rwE T (tE T p) 3) (rwE T (tE T p) 4) g5) := rs_puE (rs_puE (rs_puE (rs_puE r5 (by omega) (by omega) hj) (by omega) (by omega) hj) (by omega) (by omega) hj) (by omega) (by omega) hj
  have nm : nmRow (prE c (rwE T (tE T p) 1) (rwE T (tE T p) 2) (rwE T (tE T p) 3) (rwE T (tE T p) 4) g5) (23 + 15 * c) (rwE T (tE T p) 0) := nmRow_of nm1 (fun y hy => (vup_ne (Or.inr (by omega))).trans ((vup_ne (Or.inr (by omega))).trans ((vup_ne (Or.inr (by omega))).trans ((vup_ne (Or.inr (by omega))).trans (fr _)))))
  have vs : ∀ i, 1 ≤ i → i ≤ 4 → prE c (rwE T (tE T p) 1) (rwE T (tE T p) 2) (rwE T (tE T p) 3) (rwE T (tE T p) 4) g5 453 (29 + 15 * c + i) = rwE T (tE T p) i := by
    intro i hi hi2
    rcases (show i = 1 ∨ i = 2 ∨ i = 3 ∨ i = 4 by omega) with rfl | rfl | rfl | rfl
    · rw [show 29 + 15 * c + 1 = 23 + 15 * c + 7 by omega]
      exact (vup_ne (Or.inr (by omega))).trans ((vup_ne (Or.inr (by omega))).trans ((vup_ne (Or.inr (by omega))).trans vup_eq))
    · rw [show 29 + 15 * c + 2 = 23 + 15 * c + 8 by omega]
      exact (vup_ne (Or.inr (by omega))).trans ((vup_ne (Or.inr (by omega))).trans vup_eq)
    · rw [show 29 + 15 * c + 3 = 23 + 15 * c + 9 by omega]
      exact (vup_ne (Or.inr (by omega))).trans vup_eq
    · rw [show 29 + 15 * c + 4 = 23 + 15 * c + 10 by omega]
      exact vup_eq
  generalize prE c (rwE T (tE T p) 1) (rwE T (tE T p) 2) (rwE T (tE T p) 3) (rwE T (tE T p) 4) g5 = gg at e9 rp nm vs
  rw [rp.c0, Nat.mod_eq_of_lt (show c + 1 < 4294967296 by omega)] at e9
  exact Or.inl ⟨_, _, s0 _ (fun F => lnE_5 e0 r0.c0 ep e1 e2 e3 e4 e5 ((by (first | (refine (veq r5.er.1).trans ?_) | (refine (vF_g rfl rfl).trans ?_; refine (vF_g rfl rfl).trans ?_; refine (veq r5.er.1).trans ?_) | (refine (vF_g rfl rfl).trans ?_; refine (veq r5.er.1).trans ?_)); (first | (exact (e9 F)) | (refine (vF_g rfl rfl).trans ?_; refine (vF_g rfl rfl).trans ?_; exact (e9 F)) | (refine (vF_g rfl rfl).trans ?_; exact (e9 F)))))), rs_addE rp hj nm vs, rfl⟩
theorem lnV_5 {D F c a2 a3 a4 a5 : Nat} {f g0 g1 g2 g3 g4 g5 : Vw} {r : Option VR} (e0 : vM MT0 D 232 [vR 452] f = some ((1, 0), vW 3, g0)) (hg : g0 453 1 = c) (ep : vM MT0 D 239 [vI c, vI 1] g0 = some ((0, 0), vI (203 + 17 * c), g0)) (e1 : vM MT0 D 242 [vR 452, vI (203 + 17 * c), vI 1] g0 = some ((1, 0), vW 3, g1)) (e2 : vM MT0 D 235 [vR 452, vI 1, vI 9] g1 = some ((0, 0), vI a2, g2)) (e3 : vM MT0 D 235 [vR 452, vI 1, vI 3] g2 = some ((0, 0), vI a3, g3)) (e4 : vM MT0 D 235 [vR 452, vI 1, vI 99] g3 = some ((0, 0), vI a4, g4)) (e5 : vM MT0 D 235 [vR 452, vI 0, vI 9999] g4 = some ((0, 0), vI a5, g5)) (e6 : vc3 (bv (g5 452 20)) (bv 0) (vFn (vM MT0 D) nb_X11_valleyLine F 6 0 [vR 452, vI c, vI a2, vI a3, vI a4, vI a5] [] g5) (vFn (vM MT0 D) nb_X11_valleyLine F 7 0 [vR 452, vI c, vI a2, vI a3, vI a4, vI a5] [] g5) (vFn (vM MT0 D) nb_X11_valleyLine F 6 0 [vR 452, vI c, vI a2, vI a3, vI a4, vI a5] [] g5) = r) : vFn (vM MT0 D) nb_X11_valleyLine (F + 1) 5 0 [vR 452, vW 3, vW 3, vW 3, vW 3, vW 3] [] f = r := by
  obtain ⟨g00, rfl⟩ : ∃ g00, g0 = vup g00 453 1 c := ⟨g0, (vup_id hg).symm⟩
  (first | (refine (vbnd_1 e0).trans ?_) | (refine (vF_g rfl rfl).trans ?_; refine (vF_g rfl rfl).trans ?_; refine (vbnd_1 e0).trans ?_) | (refine (vF_g rfl rfl).trans ?_; refine (vbnd_1 e0).trans ?_))
  (first | (refine (vbnd_0 ep).trans ?_) | (refine (vF_g rfl rfl).trans ?_; refine (vF_g rfl rfl).trans ?_; refine (vbnd_0 ep).trans ?_) | (refine (vF_g rfl rfl).trans ?_; refine (vbnd_0 ep).trans ?_))
  (first | (refine (vbnd_1 e1).trans ?_) | (refine (vF_g rfl rfl).trans ?_; refine (vF_g rfl rfl).trans ?_; refine (vbnd_1 e1).trans ?_) | (refine (vF_g rfl rfl).trans ?_; refine (vbnd_1 e1).trans ?_))
  (first | (refine (vbnd_0 e2).trans ?_) | (refine (vF_g rfl rfl).trans ?_; refine (vF_g rfl rfl).trans ?_; refine (vbnd_0 e2).trans ?_) | (refine (vF_g rfl rfl).trans ?_; refine (vbnd_0 e2).trans ?_))
  (first | (refine (vbnd_0 e3).trans ?_) | (refine (vF_g rfl rfl).trans ?_; refine (vF_g rfl rfl).trans ?_; refine (vbnd_0 e3).trans ?_) | (refine (vF_g rfl rfl).trans ?_; refine (vbnd_0 e3).trans ?_))
  (first | (refine (vbnd_0 e4).trans ?_) | (refine (vF_g rfl rfl).trans ?_; refine (vF_g rfl rfl).trans ?_; refine (vbnd_0 e4).trans ?_) | (refine (vF_g rfl rfl).trans ?_; refine (vbnd_0 e4).trans ?_))
  (first | (refine (vbnd_0 e5).trans ?_) | (refine (vF_g rfl rfl).trans ?_; refine (vF_g rfl rfl).trans ?_; refine (vbnd_0 e5).trans ?_) | (refine (vF_g rfl rfl).trans ?_; refine (vbnd_0 e5).trans ?_))
  (first | (exact e6) | (refine (vF_g rfl rfl).trans ?_; refine (vF_g rfl rfl).trans ?_; exact e6) | (refine (vF_g rfl rfl).trans ?_; exact e6))
noncomputable def prV (c a2 a3 a4 a5 : Nat) (f : Vw) : Vw := vup (vup (vup (vup f 453 (203 + 17 * c + 7) a2) 453 (203 + 17 * c + 8) a3) 453 (203 + 17 * c + 9) a4) 453 (203 + 17 * c + 10) a5
theorem lnV_7 {D F c a2 a3 a4 a5 : Nat} {f : Vw} (hj : c < 8) : vFn (vM MT0 (D + 1)) nb_X11_valleyLine (F + 1) 7 0 [vR 452, vI c, vI a2, vI a3, vI a4, vI a5] [] f = some ((1, 0), vW 3, vup (vup (prV c a2 a3 a4 a5 f) 453 7 (((prV c a2 a3 a4 a5 f) 453 7 + a5) % 4294967296)) 453 1 ((vup (prV c a2 a3 a4 a5 f) 453 7 (((prV c a2 a3 a4 a5 f) 453 7 + a5) % 4294967296) 453 1 + 1) % 4294967296)) :=
  (by (first | (refine (vbnd_1 (v_putsV hj (by decide))).trans ?_) | (refine (vF_g rfl rfl).trans ?_; refine (vF_g rfl rfl).trans ?_; refine (vbnd_1 (v_putsV hj (by decide))).trans ?_) | (refine (vF_g rfl rfl).trans ?_; refine (vbnd_1 (v_putsV hj (by decide))).trans ?_)); (first | (refine (vbnd_1 (v_putsV hj (by decide))).trans ?_) | (refine (vF_g rfl rfl).trans ?_; refine (vF_g rfl rfl).trans ?_; refine (vbnd_1 (v_putsV hj (by decide))).trans ?_) | (refine (vF_g rfl rfl).trans ?_; refine (vbnd_1 (v_putsV hj (by decide))).trans ?_)); (first | (refine (vbnd_1 (v_putsV hj (by decide))).trans ?_) | (refine (vF_g rfl rfl).trans ?_; refine (vF_g rfl rfl).trans ?_; refine (vbnd_1 (v_putsV hj (by decide))).trans ?_) | (refine (vF_g rfl rfl).trans ?_; refine (vbnd_1 (v_putsV hj (by decide))).trans ?_)); (first | (refine (vbnd_1 (v_putsV hj (by decide))).trans ?_) | (refine (vF_g rfl rfl).trans ?_; refine (vF_g rfl rfl).trans ?_; refine (vbnd_1 (v_putsV hj (by decide))).trans ?_) | (refine (vF_g rfl rfl).trans ?_; refine (vbnd_1 (v_putsV hj (by decide))).trans ?_)); (first | (exact rfl) | (refine (vF_g rfl rfl).trans ?_; refine (vF_g rfl rfl).trans ?_; exact rfl) | (refine (vF_g rfl rfl).trans ?_; refine (vF_g rfl rfl).trans ?_; refine (vF_g rfl rfl).trans ?_; exact rfl) | (refine (vF_g rfl rfl).trans ?_; exact rfl)))
theorem v_lineV {D : Nat} {n c d p : Nat} {T : Nat → Nat} {E V : Nat → Nat → Nat} {f : Vw} (h : RS n T E V c d p f) (hk : tK T p = 1) : (∃ g p5, vM MT0 (D + 5) 249 [vR 452] (rkv f T p) = some ((1, 0), vW 3, g) ∧ RS n T E (ad V d (rwE T (tE T p))) c (d + 1) p5 g ∧ oValley T (fun j => V j 0) d (tS T p) (tE T p) = oS T p5 fun p => (0, p)) ∨ (∃ g e q, vM MT0 (D + 5) 249 [vR 452] (rkv f T p) = some ((1, 0), vW 3, g) ∧ ERR e q g ∧ oValley T (fun j => V j 0) d (tS T p) (tE T p) = (e, q)) := by
  have hr := rs_rkv h
  have e20 : rkv f T p 452 20 = 0 := hr.er.1
  have hn := h.tx.1
  have hE := tE_ge h.tx.2.2.2.2 h.le
  have hz := tZ_E hk
  unfold oValley
  by_cases hc : 8 ≤ d
  · rw [if_pos hc]
    have hc9 := h.d9
    have m : vM MT0 (D + 4) 230 [vR 452, vI 0, vI 4] (rkv f T p) = some ((1, 0), vW 3, flR 4 (rkv f T p)) := by
      rw [v_must (Or.inl rfl) (by rw [e20]; decide), if_pos ⟨rfl, e20⟩]
    exact Or.inr ⟨_, 4, tS T p, vM_go rfl rfl rfl rfl fun F hF => (by (first | (refine (vge2 (x := rkv f T p 453 1) (y := 8) (by rw [hr.d0]; omega) (by rw [hr.d0]; exact hc)).trans ?_) | (refine (vF_g rfl rfl).trans ?_; refine (vF_g rfl rfl).trans ?_; refine (vge2 (x := rkv f T p 453 1) (y := 8) (by rw [hr.d0]; omega) (by rw [hr.d0]; exact hc)).trans ?_) | (refine (vF_g rfl rfl).trans ?_; refine (vge2 (x := rkv f T p 453 1) (y := 8) (by rw [hr.d0]; omega) (by rw [hr.d0]; exact hc)).trans ?_)); (first | (refine (vbnd_1 m).trans ?_) | (refine (vF_g rfl rfl).trans ?_; refine (vF_g rfl rfl).trans ?_; refine (vbnd_1 m).trans ?_) | (refine (vF_g rfl rfl).trans ?_; refine (vbnd_1 m).trans ?_)); (first | (refine (vne (x := flR 4 (rkv f T p) 452 20) (y := 0) (by rw [flR_20]; decide) (by decide) (by rw [flR_20]; decide)).trans ?_) | (refine (vF_g rfl rfl).trans ?_; refine (vF_g rfl rfl).trans ?_; refine (vne (x := flR 4 (rkv f T p) 452 20) (y := 0) (by rw [flR_20]; decide) (by decide) (by rw [flR_20]; decide)).trans ?_) | (refine (vF_g rfl rfl).trans ?_; refine (vne (x := flR 4 (rkv f T p) 452 20) (y := 0) (by rw [flR_20]; decide) (by decide) (by rw [flR_20]; decide)).trans ?_)); (first | (exact rfl) | (refine (vF_g rfl rfl).trans ?_; refine (vF_g rfl rfl).trans ?_; exact rfl) | (refine (vF_g rfl rfl).trans ?_; refine (vF_g rfl rfl).trans ?_; refine (vF_g rfl rfl).trans ?_; exact rfl) | (refine (vF_g rfl rfl).trans ?_; exact rfl))), err_fl rkv_18 (by decide) (by decide), rfl⟩
  rw [if_neg hc]
  have hj : d < 8 := by omega
  have m : vM MT0 (D + 4) 230 [vR 452, vI 1, vI 4] (rkv f T p) = some ((1, 0), vW 3, rkv f T p) := by
    rw [v_must (Or.inr rfl) (by rw [e20]; decide), if_neg (fun w => by cases w.1)]
  have s0 : ∀ r, (∀ F, vFn (vM MT0 (D + 4)) nb_X11_valleyLine (F + 57) 5 0 [vR 452, vW 3, vW 3, vW 3, vW 3, vW 3] [] (rkv f T p) = r) → vM MT0 (D + 5) 249 [vR 452] (rkv f T p) = r := fun r hr9 => vM_go rfl rfl rfl rfl fun F hF => (by (first | (refine (vlt (x := rkv f T p 453 1) (y := 8) (by decide) (by rw [hr.d0]; exact hj)).trans ?_) | (refine (vF_g rfl rfl).trans ?_; refine (vF_g rfl rfl).trans ?_; refine (vlt (x := rkv f T p 453 1) (y := 8) (by decide) (by rw [hr.d0]; exact hj)).trans ?_) | (refine (vF_g rfl rfl).trans ?_; refine (vlt (x := rkv f T p 453 1) (y := 8) (by decide) (by rw [hr.d0]; exact hj)).trans ?_)); (first | (refine (vbnd_1 m).trans ?_) | (refine (vF_g rfl rfl).trans ?_; refine (vF_g rfl rfl).trans ?_; refine (vbnd_1 m).trans ?_) | (refine (vF_g rfl rfl).trans ?_; refine (vbnd_1 m).trans ?_)); (first | (refine (veq e20).trans ?_) | (refine (vF_g rfl rfl).trans ?_; refine (vF_g rfl rfl).trans ?_; refine (veq e20).trans ?_) | (refine (vF_g rfl rfl).trans ?_; refine (veq e20).trans ?_)); (first | (exact (hr9 F)) | (refine (vF_g rfl rfl).trans ?_; refine (vF_g rfl rfl).trans ?_; exact (hr9 F)) | (refine (vF_g rfl rfl).trans ?_; exact (hr9 F))))
  have e0 : vM MT0 (D + 4) 232 [vR 452] (rkv f T p) = some ((1, 0), vW 3, vup (rkv f T p) 452 17 (tE T p)) := by
    rw [v_goesPast, rkv_18, rkv_19, hz, Nat.mod_eq_of_lt (by omega)]
  have r0 : RS n T E V c d (tE T p) (vup (rkv f T p) 452 17 (tE T p)) := rs_past hr hE.2
  generalize vup (rkv f T p) 452 17 (tE T p) = g0 at e0 r0
  have ep := v_placeV (D := D + 3) (j := d) (f := g0) (by omega)
  obtain ⟨w1, w2, w3⟩ := v_newNameV (D := D) r0 hj
  by_cases k1 : nOK T (tE T p)
  rotate_left
  · rw [oNew_2 k1]
    obtain ⟨g, e, hg⟩ := w1 k1
    exact Or.inr ⟨g, 1, _, s0 _ (fun F => lnV_5 e0 r0.d0 ep e (e_number hg) (e_number hg) (e_number hg) (e_number hg) ((by (first | (refine (vne (x := g 452 20) (y := 0) (by rw [hg.1]; exact hg.2.2.2) (by decide) (by rw [hg.1]; exact hg.2.2.1)).trans ?_) | (refine (vF_g rfl rfl).trans ?_; refine (vF_g rfl rfl).trans ?_; refine (vne (x := g 452 20) (y := 0) (by rw [hg.1]; exact hg.2.2.2) (by decide) (by rw [hg.1]; exact hg.2.2.1)).trans ?_) | (refine (vF_g rfl rfl).trans ?_; refine (vne (x := g 452 20) (y := 0) (by rw [hg.1]; exact hg.2.2.2) (by decide) (by rw [hg.1]; exact hg.2.2.1)).trans ?_)); (first | (exact rfl) | (refine (vF_g rfl rfl).trans ?_; refine (vF_g rfl rfl).trans ?_; exact rfl) | (refine (vF_g rfl rfl).trans ?_; refine (vF_g rfl rfl).trans ?_; refine (vF_g rfl rfl).trans ?_; exact rfl) | (refine (vF_g rfl rfl).trans ?_; exact rfl))))), hg, rfl⟩
  by_cases k2 : fidx (fun j => V j 0) (pkr (tN T (tE T p))) d 0 = 4294967295
  rotate_left
  · rw [oNew_1 k1 k2]
    obtain ⟨g, e, hg⟩ := w2 k1 k2
    exact Or.inr ⟨g, 3, _, s0 _ (fun F => lnV_5 e0 r0.d0 ep e (e_number hg) (e_number hg) (e_number hg) (e_number hg) ((by (first | (refine (vne (x := g 452 20) (y := 0) (by rw [hg.1]; exact hg.2.2.2) (by decide) (by rw [hg.1]; exact hg.2.2.1)).trans ?_) | (refine (vF_g rfl rfl).trans ?_; refine (vF_g rfl rfl).trans ?_; refine (vne (x := g 452 20) (y := 0) (by rw [hg.1]; exact hg.2.2.2) (by decide) (by rw [hg.1]; exact hg.2.2.1)).trans ?_) | (refine (vF_g rfl rfl).trans ?_; refine (vne (x := g 452 20) (y := 0) (by rw [hg.1]; exact hg.2.2.2) (by decide) (by rw [hg.1]; exact hg.2.2.1)).trans ?_)); (first | (exact rfl) | (refine (vF_g rfl rfl).trans ?_; refine (vF_g rfl rfl).trans ?_; exact rfl) | (refine (vF_g rfl rfl).trans ?_; refine (vF_g rfl rfl).trans ?_; refine (vF_g rfl rfl).trans ?_; exact rfl) | (refine (vF_g rfl rfl).trans ?_; exact rfl))))), hg, rfl⟩
  rw [oNew_0 k1 k2]
  obtain ⟨g1, e1, r1, nm1⟩ := w3 k1 k2
  obtain ⟨u1, u2⟩ := v_numR (D := D + 1) (lo := 1) (hi := 9) r1 (by decide) (by decide)
  by_cases k3 : nuC T (tE T (tE T p)) 1 9 = 0
  rotate_left
  · rw [oN_1 k3]
    obtain ⟨g, e, hg⟩ := u2 k3
    exact Or.inr ⟨g, _, _, s0 _ (fun F => lnV_5 e0 r0.d0 ep e1 e (e_number hg) (e_number hg) (e_number hg) ((by (first | (refine (vne (x := g 452 20) (y := 0) (by rw [hg.1]; exact hg.2.2.2) (by decide) (by rw [hg.1]; exact hg.2.2.1)).trans ?_) | (refine (vF_g rfl rfl).trans ?_; refine (vF_g rfl rfl).trans ?_; refine (vne (x := g 452 20) (y := 0) (by rw [hg.1]; exact hg.2.2.2) (by decide) (by rw [hg.1]; exact hg.2.2.1)).trans ?_) | (refine (vF_g rfl rfl).trans ?_; refine (vne (x := g 452 20) (y := 0) (by rw [hg.1]; exact hg.2.2.2) (by decide) (by rw [hg.1]; exact hg.2.2.1)).trans ?_)); (first | (exact rfl) | (refine (vF_g rfl rfl).trans ?_; refine (vF_g rfl rfl).trans ?_; exact rfl) | (refine (vF_g rfl rfl).trans ?_; refine (vF_g rfl rfl).trans ?_; refine (vF_g rfl rfl).trans ?_; exact rfl) | (refine (vF_g rfl rfl).trans ?_; exact rfl))))), hg, rfl⟩
  rw [oN_0 k3]
  obtain ⟨g2, e2, r2, f2, v2⟩ := u1 k3
  clear u1 u2
  obtain ⟨u1, u2⟩ := v_numR (D := D + 1) (lo := 1) (hi := 3) r2 (by decide) (by decide)
  by_cases k4 : nuC T (tE T (tE T (tE T p))) 1 3 = 0
  rotate_left
  · rw [oN_1 k4]
    obtain ⟨g, e, hg⟩ := u2 k4
    exact Or.inr ⟨g, _, _, s0 _ (fun F => lnV_5 e0 r0.d0 ep e1 e2 e (e_number hg) (e_number hg) ((by (first | (refine (vne (x := g 452 20) (y := 0) (by rw [hg.1]; exact hg.2.2.2) (by decide) (by rw [hg.1]; exact hg.2.2.1)).trans ?_) | (refine (vF_g rfl rfl).trans ?_; refine (vF_g rfl rfl).trans ?_; refine (vne (x := g 452 20) (y := 0) (by rw [hg.1]; exact hg.2.2.2) (by decide) (by rw [hg.1]; exact hg.2.2.1)).trans ?_) | (refine (vF_g rfl rfl).trans ?_; refine (vne (x := g 452 20) (y := 0) (by rw [hg.1]; exact hg.2.2.2) (by decide) (by rw [hg.1]; exact hg.2.2.1)).trans ?_)); (first | (exact rfl) | (refine (vF_g rfl rfl).trans ?_; refine (vF_g rfl rfl).trans ?_; exact rfl) | (refine (vF_g rfl rfl).trans ?_; refine (vF_g rfl rfl).trans ?_; refine (vF_g rfl rfl).trans ?_; exact rfl) | (refine (vF_g rfl rfl).trans ?_; exact rfl))))), hg, rfl⟩
  rw [oN_0 k4]
  obtain ⟨g3, e3, r3, f3, v3⟩ := u1 k4
  clear u1 u2
  obtain ⟨u1, u2⟩ := v_numR (D := D + 1) (lo := 1) (hi := 99) r3 (by decide) (by decide)
  by_cases k5 : nuC T (tE T (tE T (tE T (tE T p)))) 1 99 = 0
  rotate_left
  · rw [oN_1 k5]
    obtain ⟨g, e, hg⟩ := u2 k5
    exact Or.inr ⟨g, _, _, s0 _ (fun F => lnV_5 e0 r0.d0 ep e1 e2 e3 e (e_number hg) ((by (first | (refine (vne (x := g 452 20) (y := 0) (by rw [hg.1]; exact hg.2.2.2) (by decide) (by rw [hg.1]; exact hg.2.2.1)).trans ?_) | (refine (vF_g rfl rfl).trans ?_; refine (vF_g rfl rfl).trans ?_; refine (vne (x := g 452 20) (y := 0) (by rw [hg.1]; exact hg.2.2.2) (by decide) (by rw [hg.1]; exact hg.2.2.1)).trans ?_) | (refine (vF_g rfl rfl).trans ?_; refine (vne (x := g 452 20) (y := 0) (by rw [hg.1]; exact hg.2.2.2) (by decide) (by rw [hg.1]; exact hg.2.2.1)).trans ?_)); (first | (exact rfl) | (refine (vF_g rfl rfl).trans ?_; refine (vF_g rfl rfl).trans ?_; exact rfl) | (refine (vF_g rfl rfl).trans ?_; refine (vF_g rfl rfl).trans ?_; refine (vF_g rfl rfl).trans ?_; exact rfl) | (refine (vF_g rfl rfl).trans ?_; exact rfl))))), hg, rfl⟩
  rw [oN_0 k5]
  obtain ⟨g4, e4, r4, f4, v4⟩ := u1 k5
  clear u1 u2
  obtain ⟨u1, u2⟩ := v_numR (D := D + 1) (lo := 0) (hi := 9999) r4 (by decide) (by decide)
  by_cases k6 : nuC T (tE T (tE T (tE T (tE T (tE T p))))) 0 9999 = 0
  rotate_left
  · rw [oN_1 k6]
    obtain ⟨g, e, hg⟩ := u2 k6
    exact Or.inr ⟨g, _, _, s0 _ (fun F => lnV_5 e0 r0.d0 ep e1 e2 e3 e4 e  ((by (first | (refine (vne (x := g 452 20) (y := 0) (by rw [hg.1]; exact hg.2.2.2) (by decide) (by rw [hg.1]; exact hg.2.2.1)).trans ?_) | (refine (vF_g rfl rfl).trans ?_; refine (vF_g rfl rfl).trans ?_; refine (vne (x := g 452 20) (y := 0) (by rw [hg.1]; exact hg.2.2.2) (by decide) (by rw [hg.1]; exact hg.2.2.1)).trans ?_) | (refine (vF_g rfl rfl).trans ?_; refine (vne (x := g 452 20) (y := 0) (by rw [hg.1]; exact hg.2.2.2) (by decide) (by rw [hg.1]; exact hg.2.2.1)).trans ?_)); (first | (exact rfl) | (refine (vF_g rfl rfl).trans ?_; refine (vF_g rfl rfl).trans ?_; exact rfl) | (refine (vF_g rfl rfl).trans ?_; refine (vF_g rfl rfl).trans ?_; refine (vF_g rfl rfl).trans ?_; exact rfl) | (refine (vF_g rfl rfl).trans ?_; exact rfl))))), hg, rfl⟩
  rw [oN_0 k6]
  obtain ⟨g5, e5, r5, f5, v5⟩ := u1 k6
  clear u1 u2
  have fr : ∀ b, g5 453 b = g1 453 b := fun b => (f5 _ _ (by decide)).trans ((f4 _ _ (by decide)).trans ((f3 _ _ (by decide)).trans (f2 _ _ (by decide))))
  have e9 := fun F => lnV_7 (D := D + 3) (F := F + 55) (c := d) (a2 := rwE T (tE T p) 1) (a3 := rwE T (tE T p) 2) (a4 := rwE T (tE T p) 3) (a5 := rwE T (tE T p) 4) (f := g5) hj
  have rp : RS n T E V c d (tE T (tE T (tE T (tE T (tE T (tE T p)))))) (prV d (rwE T (tE T p) 1) (rwE T (tE T p) 2) (rwE T (tE T p) 3) (rwE T (tE T p) 4) g5) := rs_puV (rs_puV (rs_puV (rs_puV r5 (by omega) (by omega) hj) (by omega) (by omega) hj) (by omega) (by omega) hj) (by omega) (by omega) hj
  have nm : nmRow (prV d (rwE T (tE T p) 1) (rwE T (tE T p) 2) (rwE T (tE T p) 3) (rwE T (tE T p) 4) g5) (203 + 17 * d) (rwE T (tE T p) 0) := nmRow_of nm1 (fun y hy => (vup_ne (Or.inr (by omega))).trans ((vup_ne (Or.inr (by omega))).trans ((vup_ne (Or.inr (by omega))).trans ((vup_ne (Or.inr (by omega))).trans (fr _)))))
  have vs : ∀ i, 1 ≤ i → i ≤ 4 → prV d (rwE T (tE T p) 1) (rwE T (tE T p) 2) (rwE T (tE T p) 3) (rwE T (tE T p) 4) g5 453 (209 + 17 * d + i) = rwE T (tE T p) i := by
    intro i hi hi2
    rcases (show i = 1 ∨ i = 2 ∨ i = 3 ∨ i = 4 by omega) with rfl | rfl | rfl | rfl
    · rw [show 209 + 17 * d + 1 = 203 + 17 * d + 7 by omega]
      exact (vup_ne (Or.inr (by omega))).trans ((vup_ne (Or.inr (by omega))).trans ((vup_ne (Or.inr (by omega))).trans vup_eq))
    · rw [show 209 + 17 * d + 2 = 203 + 17 * d + 8 by omega]
      exact (vup_ne (Or.inr (by omega))).trans ((vup_ne (Or.inr (by omega))).trans vup_eq)
    · rw [show 209 + 17 * d + 3 = 203 + 17 * d + 9 by omega]
      exact (vup_ne (Or.inr (by omega))).trans vup_eq
    · rw [show 209 + 17 * d + 4 = 203 + 17 * d + 10 by omega]
      exact vup_eq
  generalize prV d (rwE T (tE T p) 1) (rwE T (tE T p) 2) (rwE T (tE T p) 3) (rwE T (tE T p) 4) g5 = gg at e9 rp nm vs
  have q7 : ∀ y, RS n T E V c d (tE T (tE T (tE T (tE T (tE T (tE T p)))))) (vup gg 453 7 y) := fun y => rs_of rp (vup_ne (Or.inl (by decide))) (fun _ => vup_ne (Or.inl (by decide))) ((vup_ne (Or.inl (by decide))).trans rp.at_) rp.le (vup_ne (Or.inl (by decide))) (vup_ne (Or.inl (by decide))) (vup_ne (Or.inr (by decide))) (vup_ne (Or.inr (by decide))) (fun y hy hy2 => vup_ne (Or.inr (by omega))) (fun y hy hy2 => vup_ne (Or.inr (by omega)))
  rw [(q7 _).d0, Nat.mod_eq_of_lt (show d + 1 < 4294967296 by omega)] at e9
  exact Or.inl ⟨_, _, s0 _ (fun F => lnV_5 e0 r0.d0 ep e1 e2 e3 e4 e5 ((by (first | (refine (veq r5.er.1).trans ?_) | (refine (vF_g rfl rfl).trans ?_; refine (vF_g rfl rfl).trans ?_; refine (veq r5.er.1).trans ?_) | (refine (vF_g rfl rfl).trans ?_; refine (veq r5.er.1).trans ?_)); (first | (exact (e9 F)) | (refine (vF_g rfl rfl).trans ?_; refine (vF_g rfl rfl).trans ?_; exact (e9 F)) | (refine (vF_g rfl rfl).trans ?_; exact (e9 F)))))), rs_addV (q7 _) hj (nmRow_of nm (fun y hy => vup_ne (Or.inr (by omega)))) (fun i hi hi2 => (vup_ne (Or.inr (by omega))).trans (vs i hi hi2)), rfl⟩
/-! a test, a statement -/
theorem v_pair {D a b : Nat} {f : Vw} (ha : a < 8) (hb : b < 12) : vM MT0 (D + 1) 185 [vI a, vI b, vI 0] f = some ((0, 0), vI (339 + 3 * (12 * a + b)), f) := by
  refine vM_go rfl rfl rfl rfl fun F hF => ?_
  (first | (refine Eq.trans (b := some ((0, 0), vI (((339 + g_imul 3 ((g_imul 12 a + b) % 4294967296)) % 4294967296 + 0) % 4294967296), f)) rfl ?_) | (refine (vF_g rfl rfl).trans ?_; refine (vF_g rfl rfl).trans ?_; refine Eq.trans (b := some ((0, 0), vI (((339 + g_imul 3 ((g_imul 12 a + b) % 4294967296)) % 4294967296 + 0) % 4294967296), f)) rfl ?_) | (refine (vF_g rfl rfl).trans ?_; refine Eq.trans (b := some ((0, 0), vI (((339 + g_imul 3 ((g_imul 12 a + b) % 4294967296)) % 4294967296 + 0) % 4294967296), f)) rfl ?_))
  rw [g_imul_s (show 12 * a < 2147483648 by omega) (by decide) (by omega), Nat.mod_eq_of_lt (show 12 * a + b < 4294967296 by omega), g_imul_s (show 3 * (12 * a + b) < 2147483648 by omega) (by decide) (by omega), Nat.add_zero, Nat.mod_eq_of_lt (show 339 + 3 * (12 * a + b) < 4294967296 by omega), Nat.mod_eq_of_lt (show 339 + 3 * (12 * a + b) < 4294967296 by omega)]
theorem tsl_0 {D F a b : Nat} {f g0 g1 g2 : Vw} {r : Option VR} (e0 : vM MT0 D 232 [vR 452] f = some ((1, 0), vW 3, g0)) (e1 : vM MT0 D 241 [vR 452, vI 1] g0 = some ((0, 0), vI a, g1)) (e2 : vM MT0 D 241 [vR 452, vI 0] g1 = some ((0, 0), vI b, g2)) (e3 : vc3 (bv (g2 452 20)) (bv 0) (vFn (vM MT0 D) nb_X11_testedLine F 2 0 [vR 452, vI a, vI b] [] g2) (vFn (vM MT0 D) nb_X11_testedLine F 1 0 [vR 452, vI a, vI b] [] g2) (vFn (vM MT0 D) nb_X11_testedLine F 2 0 [vR 452, vI a, vI b] [] g2) = r) : vFn (vM MT0 D) nb_X11_testedLine (F + 1) 0 0 [vR 452, vW 3, vW 3] [] f = r := (by (first | (refine (vbnd_1 e0).trans ?_) | (refine (vF_g rfl rfl).trans ?_; refine (vF_g rfl rfl).trans ?_; refine (vbnd_1 e0).trans ?_) | (refine (vF_g rfl rfl).trans ?_; refine (vbnd_1 e0).trans ?_)); (first | (refine (vbnd_0 e1).trans ?_) | (refine (vF_g rfl rfl).trans ?_; refine (vF_g rfl rfl).trans ?_; refine (vbnd_0 e1).trans ?_) | (refine (vF_g rfl rfl).trans ?_; refine (vbnd_0 e1).trans ?_)); (first | (refine (vbnd_0 e2).trans ?_) | (refine (vF_g rfl rfl).trans ?_; refine (vF_g rfl rfl).trans ?_; refine (vbnd_0 e2).trans ?_) | (refine (vF_g rfl rfl).trans ?_; refine (vbnd_0 e2).trans ?_)); (first | (exact e3) | (refine (vF_g rfl rfl).trans ?_; refine (vF_g rfl rfl).trans ?_; exact e3) | (refine (vF_g rfl rfl).trans ?_; exact e3)))
theorem tsl_1 {D F a b : Nat} {f : Vw} (ha : a < 8) (hb : b < 12) : vFn (vM MT0 (D + 1)) nb_X11_testedLine (F + 2) 1 0 [vR 452, vI a, vI b] [] f = some ((1, 0), vW 3, vup f 453 (339 + 3 * (12 * a + b)) 1) := by
  (first | (refine (vbnd_0 (v_pair ha hb)).trans ?_) | (refine (vF_g rfl rfl).trans ?_; refine (vF_g rfl rfl).trans ?_; refine (vbnd_0 (v_pair ha hb)).trans ?_) | (refine (vF_g rfl rfl).trans ?_; refine (vbnd_0 (v_pair ha hb)).trans ?_))
  (first | (refine Eq.trans (b := gd (Nat.ble (339 + 3 * (12 * a + b) + 1) 627) (vFn (vM MT0 (D + 1)) nb_X11_testedLine (F + 1) 2 0 [vR 452, vI a, vI b] [] (vup f 453 (339 + 3 * (12 * a + b)) 1))) rfl ?_) | (refine (vF_g rfl rfl).trans ?_; refine (vF_g rfl rfl).trans ?_; refine Eq.trans (b := gd (Nat.ble (339 + 3 * (12 * a + b) + 1) 627) (vFn (vM MT0 (D + 1)) nb_X11_testedLine (F + 1) 2 0 [vR 452, vI a, vI b] [] (vup f 453 (339 + 3 * (12 * a + b)) 1))) rfl ?_) | (refine (vF_g rfl rfl).trans ?_; refine Eq.trans (b := gd (Nat.ble (339 + 3 * (12 * a + b) + 1) 627) (vFn (vM MT0 (D + 1)) nb_X11_testedLine (F + 1) 2 0 [vR 452, vI a, vI b] [] (vup f 453 (339 + 3 * (12 * a + b)) 1))) rfl ?_))
  rw [Nat.ble_eq_true_of_le (show 339 + 3 * (12 * a + b) + 1 ≤ 627 by omega)]
  (first | (exact rfl) | (refine (vF_g rfl rfl).trans ?_; refine (vF_g rfl rfl).trans ?_; exact rfl) | (refine (vF_g rfl rfl).trans ?_; refine (vF_g rfl rfl).trans ?_; refine (vF_g rfl rfl).trans ?_; exact rfl) | (refine (vF_g rfl rfl).trans ?_; exact rfl))
theorem v_lineT {D : Nat} {n c d p : Nat} {T : Nat → Nat} {E V : Nat → Nat → Nat} {f : Vw} (h : RS n T E V c d p f) (hk : tK T p = 1) : (∃ g p5, vM MT0 (D + 5) 250 [vR 452] (rkv f T p) = some ((1, 0), vW 3, g) ∧ RS n T E V c d p5 g ∧ oTest T (fun j => E j 0) (fun j => V j 0) c d (tE T p) = oS T p5 fun p => (0, p)) ∨ (∃ g e q, vM MT0 (D + 5) 250 [vR 452] (rkv f T p) = some ((1, 0), vW 3, g) ∧ ERR e q g ∧ oTest T (fun j => E j 0) (fun j => V j 0) c d (tE T p) = (e, q)) := by
  have hr := rs_rkv h
  have hn := h.tx.1
  have hc9 := h.c9
  have hd9 := h.d9
  have hE := tE_ge h.tx.2.2.2.2 h.le
  have hz := tZ_E hk
  have e0 : vM MT0 (D + 4) 232 [vR 452] (rkv f T p) = some ((1, 0), vW 3, vup (rkv f T p) 452 17 (tE T p)) := by
    rw [v_goesPast, rkv_18, rkv_19, hz, Nat.mod_eq_of_lt (by omega)]
  have r0 : RS n T E V c d (tE T p) (vup (rkv f T p) 452 17 (tE T p)) := rs_past hr hE.2
  generalize vup (rkv f T p) 452 17 (tE T p) = g0 at e0 r0
  unfold oTest
  obtain ⟨w1, w2, w3⟩ := v_mustV (D := D) r0
  by_cases k1 : nOK T (tE T p)
  rotate_left
  · rw [oIt_2 k1]
    obtain ⟨g, e, hg⟩ := w1 k1
    exact Or.inr ⟨g, 1, _, vM_go rfl rfl rfl rfl fun F hF => tsl_0 (F := F + 59) e0 e (e_mustBe hg) ((by (first | (refine (vne (x := g 452 20) (y := 0) (by rw [hg.1]; exact hg.2.2.2) (by decide) (by rw [hg.1]; exact hg.2.2.1)).trans ?_) | (refine (vF_g rfl rfl).trans ?_; refine (vF_g rfl rfl).trans ?_; refine (vne (x := g 452 20) (y := 0) (by rw [hg.1]; exact hg.2.2.2) (by decide) (by rw [hg.1]; exact hg.2.2.1)).trans ?_) | (refine (vF_g rfl rfl).trans ?_; refine (vne (x := g 452 20) (y := 0) (by rw [hg.1]; exact hg.2.2.2) (by decide) (by rw [hg.1]; exact hg.2.2.1)).trans ?_)); (first | (exact rfl) | (refine (vF_g rfl rfl).trans ?_; refine (vF_g rfl rfl).trans ?_; exact rfl) | (refine (vF_g rfl rfl).trans ?_; refine (vF_g rfl rfl).trans ?_; refine (vF_g rfl rfl).trans ?_; exact rfl) | (refine (vF_g rfl rfl).trans ?_; exact rfl)))), hg, rfl⟩
  by_cases k2 : fidx (fun j => V j 0) (pkr (tN T (tE T p))) d 0 = 4294967295
  · rw [oIt_1 k1 k2]
    obtain ⟨g, e, hg⟩ := w2 k1 k2
    exact Or.inr ⟨g, 3, _, vM_go rfl rfl rfl rfl fun F hF => tsl_0 (F := F + 59) e0 e (e_mustBe hg) ((by (first | (refine (vne (x := g 452 20) (y := 0) (by rw [hg.1]; exact hg.2.2.2) (by decide) (by rw [hg.1]; exact hg.2.2.1)).trans ?_) | (refine (vF_g rfl rfl).trans ?_; refine (vF_g rfl rfl).trans ?_; refine (vne (x := g 452 20) (y := 0) (by rw [hg.1]; exact hg.2.2.2) (by decide) (by rw [hg.1]; exact hg.2.2.1)).trans ?_) | (refine (vF_g rfl rfl).trans ?_; refine (vne (x := g 452 20) (y := 0) (by rw [hg.1]; exact hg.2.2.2) (by decide) (by rw [hg.1]; exact hg.2.2.1)).trans ?_)); (first | (exact rfl) | (refine (vF_g rfl rfl).trans ?_; refine (vF_g rfl rfl).trans ?_; exact rfl) | (refine (vF_g rfl rfl).trans ?_; refine (vF_g rfl rfl).trans ?_; refine (vF_g rfl rfl).trans ?_; exact rfl) | (refine (vF_g rfl rfl).trans ?_; exact rfl)))), hg, rfl⟩
  rw [oIt_0 k1 k2]
  obtain ⟨g1, e1, r1, _⟩ := w3 k1 k2
  have ha : fidx (fun j => V j 0) (pkr (tN T (tE T p))) d 0 < 8 := by
    rcases fidx_lt (g := fun j => V j 0) (x := pkr (tN T (tE T p))) d 0 with q | ⟨_, q, _⟩
    · exact absurd q k2
    · omega
  obtain ⟨y1, y2, y3⟩ := v_mustE (D := D) r1
  by_cases k3 : nOK T (tE T (tE T p))
  rotate_left
  · rw [oIt_2 k3]
    obtain ⟨g, e, hg⟩ := y1 k3
    exact Or.inr ⟨g, 1, _, vM_go rfl rfl rfl rfl fun F hF => tsl_0 (F := F + 59) e0 e1 e ((by (first | (refine (vne (x := g 452 20) (y := 0) (by rw [hg.1]; exact hg.2.2.2) (by decide) (by rw [hg.1]; exact hg.2.2.1)).trans ?_) | (refine (vF_g rfl rfl).trans ?_; refine (vF_g rfl rfl).trans ?_; refine (vne (x := g 452 20) (y := 0) (by rw [hg.1]; exact hg.2.2.2) (by decide) (by rw [hg.1]; exact hg.2.2.1)).trans ?_) | (refine (vF_g rfl rfl).trans ?_; refine (vne (x := g 452 20) (y := 0) (by rw [hg.1]; exact hg.2.2.2) (by decide) (by rw [hg.1]; exact hg.2.2.1)).trans ?_)); (first | (exact rfl) | (refine (vF_g rfl rfl).trans ?_; refine (vF_g rfl rfl).trans ?_; exact rfl) | (refine (vF_g rfl rfl).trans ?_; refine (vF_g rfl rfl).trans ?_; refine (vF_g rfl rfl).trans ?_; exact rfl) | (refine (vF_g rfl rfl).trans ?_; exact rfl)))), hg, rfl⟩
  by_cases k4 : fidx (fun j => E j 0) (pkr (tN T (tE T (tE T p)))) c 0 = 4294967295
  · rw [oIt_1 k3 k4]
    obtain ⟨g, e, hg⟩ := y2 k3 k4
    exact Or.inr ⟨g, 3, _, vM_go rfl rfl rfl rfl fun F hF => tsl_0 (F := F + 59) e0 e1 e ((by (first | (refine (vne (x := g 452 20) (y := 0) (by rw [hg.1]; exact hg.2.2.2) (by decide) (by rw [hg.1]; exact hg.2.2.1)).trans ?_) | (refine (vF_g rfl rfl).trans ?_; refine (vF_g rfl rfl).trans ?_; refine (vne (x := g 452 20) (y := 0) (by rw [hg.1]; exact hg.2.2.2) (by decide) (by rw [hg.1]; exact hg.2.2.1)).trans ?_) | (refine (vF_g rfl rfl).trans ?_; refine (vne (x := g 452 20) (y := 0) (by rw [hg.1]; exact hg.2.2.2) (by decide) (by rw [hg.1]; exact hg.2.2.1)).trans ?_)); (first | (exact rfl) | (refine (vF_g rfl rfl).trans ?_; refine (vF_g rfl rfl).trans ?_; exact rfl) | (refine (vF_g rfl rfl).trans ?_; refine (vF_g rfl rfl).trans ?_; refine (vF_g rfl rfl).trans ?_; exact rfl) | (refine (vF_g rfl rfl).trans ?_; exact rfl)))), hg, rfl⟩
  rw [oIt_0 k3 k4]
  obtain ⟨g2, e2, r2, _⟩ := y3 k3 k4
  have hb : fidx (fun j => E j 0) (pkr (tN T (tE T (tE T p)))) c 0 < 12 := by
    rcases fidx_lt (g := fun j => E j 0) (x := pkr (tN T (tE T (tE T p)))) c 0 with q | ⟨_, q, _⟩
    · exact absurd q k4
    · omega
  refine Or.inl ⟨_, _, vM_go rfl rfl rfl rfl fun F hF => tsl_0 (F := F + 59) e0 e1 e2 ((by (first | (refine (veq r2.er.1).trans ?_) | (refine (vF_g rfl rfl).trans ?_; refine (vF_g rfl rfl).trans ?_; refine (veq r2.er.1).trans ?_) | (refine (vF_g rfl rfl).trans ?_; refine (veq r2.er.1).trans ?_)); (first | (exact (tsl_1 ha hb)) | (refine (vF_g rfl rfl).trans ?_; refine (vF_g rfl rfl).trans ?_; exact (tsl_1 ha hb)) | (refine (vF_g rfl rfl).trans ?_; exact (tsl_1 ha hb))))), ?_, rfl⟩
  exact rs_of r2 (vup_ne (Or.inl (by decide))) (fun _ => vup_ne (Or.inl (by decide))) ((vup_ne (Or.inl (by decide))).trans r2.at_) r2.le (vup_ne (Or.inl (by decide))) (vup_ne (Or.inl (by decide))) (vup_ne (Or.inr (by omega))) (vup_ne (Or.inr (by omega))) (fun y hy hy2 => vup_ne (Or.inr (by omega))) (fun y hy hy2 => vup_ne (Or.inr (by omega)))
