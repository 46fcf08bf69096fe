/-! the reference's statements, its fog, its load -/
theorem semi_end {D F n c d p : Nat} {T : Nat → Nat} {E V : Nat → Nat → Nat} {g : Vw} (h : RS n T E V c d p g) : (tK T p = 3 → ∃ g', vFn (vM MT0 (D + 3)) nb_X11_statement (F + 1) 7 0 [vR 452, vW 3] [] g = some ((1, 0), vW 3, g') ∧ RS n T E V c d (tE T p) g') ∧ (tK T p ≠ 3 → ∃ g', vFn (vM MT0 (D + 3)) nb_X11_statement (F + 1) 7 0 [vR 452, vW 3] [] g = some ((1, 0), vW 3, g') ∧ ERR 1 (tS T p) g') := by
  obtain ⟨w1, w2⟩ := v_semiR (D := D) h
  refine ⟨fun k => ?_, fun k => ?_⟩
  · obtain ⟨g', e, hg, _⟩ := w1 k
    exact ⟨g', (by (first | (refine (vbnd_1 e).trans ?_) | (refine (vF_g rfl rfl).trans ?_; refine (vF_g rfl rfl).trans ?_; refine (vbnd_1 e).trans ?_) | (refine (vF_g rfl rfl).trans ?_; refine (vbnd_1 e).trans ?_)); (first | (exact rfl) | (refine (vF_g rfl rfl).trans ?_; refine (vF_g rfl rfl).trans ?_; exact rfl) | (refine (vF_g rfl rfl).trans ?_; refine (vF_g rfl rfl).trans ?_; refine (vF_g rfl rfl).trans ?_; exact rfl) | (refine (vF_g rfl rfl).trans ?_; exact rfl))), hg⟩
  · obtain ⟨g', e, hg⟩ := w2 k
    exact ⟨g', (by (first | (refine (vbnd_1 e).trans ?_) | (refine (vF_g rfl rfl).trans ?_; refine (vF_g rfl rfl).trans ?_; refine (vbnd_1 e).trans ?_) | (refine (vF_g rfl rfl).trans ?_; refine (vbnd_1 e).trans ?_)); (first | (exact rfl) | (refine (vF_g rfl rfl).trans ?_; refine (vF_g rfl rfl).trans ?_; exact rfl) | (refine (vF_g rfl rfl).trans ?_; refine (vF_g rfl rfl).trans ?_; refine (vF_g rfl rfl).trans ?_; exact rfl) | (refine (vF_g rfl rfl).trans ?_; exact rfl))), hg⟩
theorem semi_err {D F e q : Nat} {g : Vw} (h : ERR e q g) : vFn (vM MT0 (D + 1)) nb_X11_statement (F + 1) 7 0 [vR 452, vW 3] [] g = some ((1, 0), vW 3, g) := (by (first | (refine (vbnd_1 (e_semi h)).trans ?_) | (refine (vF_g rfl rfl).trans ?_; refine (vF_g rfl rfl).trans ?_; refine (vbnd_1 (e_semi h)).trans ?_) | (refine (vF_g rfl rfl).trans ?_; refine (vbnd_1 (e_semi h)).trans ?_)); (first | (exact rfl) | (refine (vF_g rfl rfl).trans ?_; refine (vF_g rfl rfl).trans ?_; exact rfl) | (refine (vF_g rfl rfl).trans ?_; refine (vF_g rfl rfl).trans ?_; refine (vF_g rfl rfl).trans ?_; exact rfl) | (refine (vF_g rfl rfl).trans ?_; exact rfl)))
/-- a line and its semicolon -/
theorem stm_of {D F n c d : Nat} {T : Nat → Nat} {E V : Nat → Nat → Nat} {o : Nat × Nat} {r : Option VR} {Z : Option VR} (hZ : ∀ g, r = some ((1, 0), vW 3, g) → Z = vFn (vM MT0 (D + 3)) nb_X11_statement (F + 1) 7 0 [vR 452, vW 3] [] g) (h : (∃ g p5, r = some ((1, 0), vW 3, g) ∧ RS n T E V c d p5 g ∧ o = oS T p5 fun p => (0, p)) ∨ (∃ g e q, r = some ((1, 0), vW 3, g) ∧ ERR e q g ∧ o = (e, q))) : (o.1 = 0 → ∃ g, Z = some ((1, 0), vW 3, g) ∧ RS n T E V c d o.2 g) ∧ (o.1 ≠ 0 → ∃ g, Z = some ((1, 0), vW 3, g) ∧ ERR o.1 o.2 g) := by
  rcases h with ⟨g, p5, h1, h2, h3⟩ | ⟨g, e, q, h1, h2, h3⟩
  · rw [hZ g h1, h3]
    obtain ⟨w1, w2⟩ := semi_end (D := D) (F := F) h2
    by_cases k : tK T p5 = 3
    · rw [oS_0 k]
      exact ⟨fun _ => w1 k, fun w => absurd rfl w⟩
    · rw [oS_1 k]
      exact ⟨fun w => absurd w n01, fun _ => w2 k⟩
  · rw [hZ g h1, h3]
    exact ⟨fun w => absurd w h2.2.2.1, fun _ => ⟨g, semi_err h2, h2⟩⟩
theorem v_stmR {D n c d p : Nat} {T : Nat → Nat} {E V : Nat → Nat → Nat} {f : Vw} (h : RS n T E V c d p f) : ((oStm T c d E V p).1.1 = 0 → ∃ g, vM MT0 (D + 6) 251 [vR 452] f = some ((1, 0), vW 3, g) ∧ RS n T (oStm T c d E V p).2.2.1 (oStm T c d E V p).2.2.2 (oStm T c d E V p).2.1.1 (oStm T c d E V p).2.1.2 (oStm T c d E V p).1.2 g) ∧ ((oStm T c d E V p).1.1 ≠ 0 → ∃ g, vM MT0 (D + 6) 251 [vR 452] f = some ((1, 0), vW 3, g) ∧ ERR (oStm T c d E V p).1.1 (oStm T c d E V p).1.2 g) := by
  obtain ⟨F, hF, go⟩ := vM_at (D := D + 5) (y := 251) (as := [vR 452]) (f := f) rfl rfl rfl rfl
  have hi := tS_i h.tx.1 h.tx.2.2.2.2 h.le
  have a := v_sees (D := D + 2) (w := 28) (by decide) (by decide) h.tx h.at_ h.le h.er.1
  have h1 := rs_rkv h
  generalize hp1 : tS T p = p1 at h1 hi
  have hi1 : tS T p1 = tS T p := hi.trans hp1.symm
  have b := v_sees (D := D + 2) (w := 29) (by decide) (by decide) h1.tx h1.at_ h1.le h1.er.1
  have h2 := rs_rkv h1
  rw [hi] at h2
  have e := v_sees (D := D + 2) (w := 30) (by decide) (by decide) h2.tx h2.at_ h2.le h2.er.1
  have h3 := rs_rkv h2
  by_cases k1 : wOKc T 28 p
  · rw [oStm_e k1]
    rw [if_pos ((wOK_c (by decide)).mp k1)] at a
    exact stm_of (D := D + 2) (F := F + 57) (fun g hg => go _ <| (by (first | (refine (vbnd_0 a).trans ?_) | (refine (vF_g rfl rfl).trans ?_; refine (vF_g rfl rfl).trans ?_; refine (vbnd_0 a).trans ?_) | (refine (vF_g rfl rfl).trans ?_; refine (vbnd_0 a).trans ?_)); (first | (refine (vgt (x := 1) (y := 0) (by decide) (by decide)).trans ?_) | (refine (vF_g rfl rfl).trans ?_; refine (vF_g rfl rfl).trans ?_; refine (vgt (x := 1) (y := 0) (by decide) (by decide)).trans ?_) | (refine (vF_g rfl rfl).trans ?_; refine (vgt (x := 1) (y := 0) (by decide) (by decide)).trans ?_)); (first | (refine (vbnd_1 hg).trans ?_) | (refine (vF_g rfl rfl).trans ?_; refine (vF_g rfl rfl).trans ?_; refine (vbnd_1 hg).trans ?_) | (refine (vF_g rfl rfl).trans ?_; refine (vbnd_1 hg).trans ?_)); (first | (exact rfl) | (refine (vF_g rfl rfl).trans ?_; refine (vF_g rfl rfl).trans ?_; exact rfl) | (refine (vF_g rfl rfl).trans ?_; refine (vF_g rfl rfl).trans ?_; refine (vF_g rfl rfl).trans ?_; exact rfl) | (refine (vF_g rfl rfl).trans ?_; exact rfl)))) (v_lineE (D := D) h k1.1)
  · rw [if_neg (fun w => k1 ((wOK_c (by decide)).mpr w))] at a
    have n1 : ¬ wOKc T 28 p1 := fun w => k1 ((w_i hi1).mp w)
    by_cases k2 : wOKc T 29 p
    · have k2' := (w_i hi1).mpr k2
      rw [oStm_v k1 k2, ← tE_i hi1, ← hi1]
      rw [if_pos ((wOK_c (by decide)).mp k2')] at b
      exact stm_of (D := D + 2) (F := F + 56) (fun g hg => go _ <| (by (first | (refine (vbnd_0 a).trans ?_) | (refine (vF_g rfl rfl).trans ?_; refine (vF_g rfl rfl).trans ?_; refine (vbnd_0 a).trans ?_) | (refine (vF_g rfl rfl).trans ?_; refine (vbnd_0 a).trans ?_)); (first | (refine (veq (x := 0) (y := 0) rfl).trans ?_) | (refine (vF_g rfl rfl).trans ?_; refine (vF_g rfl rfl).trans ?_; refine (veq (x := 0) (y := 0) rfl).trans ?_) | (refine (vF_g rfl rfl).trans ?_; refine (veq (x := 0) (y := 0) rfl).trans ?_)); (first | (refine (vbnd_0 b).trans ?_) | (refine (vF_g rfl rfl).trans ?_; refine (vF_g rfl rfl).trans ?_; refine (vbnd_0 b).trans ?_) | (refine (vF_g rfl rfl).trans ?_; refine (vbnd_0 b).trans ?_)); (first | (refine (vgt (x := 1) (y := 0) (by decide) (by decide)).trans ?_) | (refine (vF_g rfl rfl).trans ?_; refine (vF_g rfl rfl).trans ?_; refine (vgt (x := 1) (y := 0) (by decide) (by decide)).trans ?_) | (refine (vF_g rfl rfl).trans ?_; refine (vgt (x := 1) (y := 0) (by decide) (by decide)).trans ?_)); (first | (refine (vbnd_1 hg).trans ?_) | (refine (vF_g rfl rfl).trans ?_; refine (vF_g rfl rfl).trans ?_; refine (vbnd_1 hg).trans ?_) | (refine (vF_g rfl rfl).trans ?_; refine (vbnd_1 hg).trans ?_)); (first | (exact rfl) | (refine (vF_g rfl rfl).trans ?_; refine (vF_g rfl rfl).trans ?_; exact rfl) | (refine (vF_g rfl rfl).trans ?_; refine (vF_g rfl rfl).trans ?_; refine (vF_g rfl rfl).trans ?_; exact rfl) | (refine (vF_g rfl rfl).trans ?_; exact rfl)))) (v_lineV (D := D) h1 k2'.1)
    · have n2 : ¬ wOKc T 29 p1 := fun w => k2 ((w_i hi1).mp w)
      rw [if_neg (fun w => n2 ((wOK_c (by decide)).mpr w))] at b
      by_cases k3 : wOKc T 30 p
      · have k3' := (w_i hi1).mpr k3
        rw [oStm_t k1 k2 k3, ← tE_i hi1]
        rw [if_pos ((wOK_c (by decide)).mp k3')] at e
        exact stm_of (D := D + 2) (F := F + 55) (fun g hg => go _ <| (by (first | (refine (vbnd_0 a).trans ?_) | (refine (vF_g rfl rfl).trans ?_; refine (vF_g rfl rfl).trans ?_; refine (vbnd_0 a).trans ?_) | (refine (vF_g rfl rfl).trans ?_; refine (vbnd_0 a).trans ?_)); (first | (refine (veq (x := 0) (y := 0) rfl).trans ?_) | (refine (vF_g rfl rfl).trans ?_; refine (vF_g rfl rfl).trans ?_; refine (veq (x := 0) (y := 0) rfl).trans ?_) | (refine (vF_g rfl rfl).trans ?_; refine (veq (x := 0) (y := 0) rfl).trans ?_)); (first | (refine (vbnd_0 b).trans ?_) | (refine (vF_g rfl rfl).trans ?_; refine (vF_g rfl rfl).trans ?_; refine (vbnd_0 b).trans ?_) | (refine (vF_g rfl rfl).trans ?_; refine (vbnd_0 b).trans ?_)); (first | (refine (veq (x := 0) (y := 0) rfl).trans ?_) | (refine (vF_g rfl rfl).trans ?_; refine (vF_g rfl rfl).trans ?_; refine (veq (x := 0) (y := 0) rfl).trans ?_) | (refine (vF_g rfl rfl).trans ?_; refine (veq (x := 0) (y := 0) rfl).trans ?_)); (first | (refine (vbnd_0 e).trans ?_) | (refine (vF_g rfl rfl).trans ?_; refine (vF_g rfl rfl).trans ?_; refine (vbnd_0 e).trans ?_) | (refine (vF_g rfl rfl).trans ?_; refine (vbnd_0 e).trans ?_)); (first | (refine (vgt (x := 1) (y := 0) (by decide) (by decide)).trans ?_) | (refine (vF_g rfl rfl).trans ?_; refine (vF_g rfl rfl).trans ?_; refine (vgt (x := 1) (y := 0) (by decide) (by decide)).trans ?_) | (refine (vF_g rfl rfl).trans ?_; refine (vgt (x := 1) (y := 0) (by decide) (by decide)).trans ?_)); (first | (refine (vbnd_1 hg).trans ?_) | (refine (vF_g rfl rfl).trans ?_; refine (vF_g rfl rfl).trans ?_; refine (vbnd_1 hg).trans ?_) | (refine (vF_g rfl rfl).trans ?_; refine (vbnd_1 hg).trans ?_)); (first | (exact rfl) | (refine (vF_g rfl rfl).trans ?_; refine (vF_g rfl rfl).trans ?_; exact rfl) | (refine (vF_g rfl rfl).trans ?_; refine (vF_g rfl rfl).trans ?_; refine (vF_g rfl rfl).trans ?_; exact rfl) | (refine (vF_g rfl rfl).trans ?_; exact rfl)))) (v_lineT (D := D) h2 k3'.1)
      · have n3 : ¬ wOKc T 30 p1 := fun w => k3 ((w_i hi1).mp w)
        rw [if_neg (fun w => n3 ((wOK_c (by decide)).mpr w))] at e
        rw [oStm_n k1 k2 k3, hp1]
        have x := v_nextR (D := D + 3) h3.tx h3.at_ h3.le
        have h4 := rs_rkv h3
        have e20 := h4.er.1
        have m : vM MT0 (D + 5) 230 [vR 452, vI 0, vI 1] (rkv (rkv (rkv (rkv f T p) T p1) T p1) T (tS T p1)) = some ((1, 0), vW 3, flR 1 (rkv (rkv (rkv (rkv f T p) T p1) T p1) T (tS T p1))) := by
          rw [v_must (Or.inl rfl) (by rw [e20]; decide), if_pos ⟨rfl, e20⟩]
        have he : ERR 1 p1 (flR 1 (rkv (rkv (rkv (rkv f T p) T p1) T p1) T (tS T p1))) := err_fl (by rw [rkv_18, hi, hi]) (by decide) (by decide)
        exact ⟨fun w => absurd w n01, fun _ => ⟨_, go _ <| (by (first | (refine (vbnd_0 a).trans ?_) | (refine (vF_g rfl rfl).trans ?_; refine (vF_g rfl rfl).trans ?_; refine (vbnd_0 a).trans ?_) | (refine (vF_g rfl rfl).trans ?_; refine (vbnd_0 a).trans ?_)); (first | (refine (veq (x := 0) (y := 0) rfl).trans ?_) | (refine (vF_g rfl rfl).trans ?_; refine (vF_g rfl rfl).trans ?_; refine (veq (x := 0) (y := 0) rfl).trans ?_) | (refine (vF_g rfl rfl).trans ?_; refine (veq (x := 0) (y := 0) rfl).trans ?_)); (first | (refine (vbnd_0 b).trans ?_) | (refine (vF_g rfl rfl).trans ?_; refine (vF_g rfl rfl).trans ?_; refine (vbnd_0 b).trans ?_) | (refine (vF_g rfl rfl).trans ?_; refine (vbnd_0 b).trans ?_)); (first | (refine (veq (x := 0) (y := 0) rfl).trans ?_) | (refine (vF_g rfl rfl).trans ?_; refine (vF_g rfl rfl).trans ?_; refine (veq (x := 0) (y := 0) rfl).trans ?_) | (refine (vF_g rfl rfl).trans ?_; refine (veq (x := 0) (y := 0) rfl).trans ?_)); (first | (refine (vbnd_0 e).trans ?_) | (refine (vF_g rfl rfl).trans ?_; refine (vF_g rfl rfl).trans ?_; refine (vbnd_0 e).trans ?_) | (refine (vF_g rfl rfl).trans ?_; refine (vbnd_0 e).trans ?_)); (first | (refine (veq (x := 0) (y := 0) rfl).trans ?_) | (refine (vF_g rfl rfl).trans ?_; refine (vF_g rfl rfl).trans ?_; refine (veq (x := 0) (y := 0) rfl).trans ?_) | (refine (vF_g rfl rfl).trans ?_; refine (veq (x := 0) (y := 0) rfl).trans ?_)); (first | (refine (vbnd_0 x).trans ?_) | (refine (vF_g rfl rfl).trans ?_; refine (vF_g rfl rfl).trans ?_; refine (vbnd_0 x).trans ?_) | (refine (vF_g rfl rfl).trans ?_; refine (vbnd_0 x).trans ?_)); (first | (refine (vbnd_1 m).trans ?_) | (refine (vF_g rfl rfl).trans ?_; refine (vF_g rfl rfl).trans ?_; refine (vbnd_1 m).trans ?_) | (refine (vF_g rfl rfl).trans ?_; refine (vbnd_1 m).trans ?_)); (first | (refine (vbnd_1 (e_semi he)).trans ?_) | (refine (vF_g rfl rfl).trans ?_; refine (vF_g rfl rfl).trans ?_; refine (vbnd_1 (e_semi he)).trans ?_) | (refine (vF_g rfl rfl).trans ?_; refine (vbnd_1 (e_semi he)).trans ?_)); (first | (exact rfl) | (refine (vF_g rfl rfl).trans ?_; refine (vF_g rfl rfl).trans ?_; exact rfl) | (refine (vF_g rfl rfl).trans ?_; refine (vF_g rfl rfl).trans ?_; refine (vF_g rfl rfl).trans ?_; exact rfl) | (refine (vF_g rfl rfl).trans ?_; exact rfl))), he⟩⟩
/-! the fog -/
theorem rk17 {T : Nat → Nat} {p y : Nat} {f : Vw} : vup (rkv f T p) 452 17 y 452 18 = tS T p := (vup_ne (Or.inr (by decide))).trans rkv_18
theorem nuR_18 {T : Nat → Nat} {p lo hi : Nat} {f : Vw} : (nuR f T p lo hi).2 452 18 = tS T p := by
  have a : ∀ c, flR c (vup (rkv f T p) 452 17 (nE T p)) 452 18 = tS T p := fun c => (flR_o (Or.inr (by decide))).trans (rk17 (f := f) (y := nE T p))
  have b : flR 1 (rkv f T p) 452 18 = tS T p := (flR_o (Or.inr (by decide))).trans rkv_18
  unfold nuR
  split
  · split
    · split
      · exact rk17 (f := f) (y := nE T p)
      · exact a 2
    · exact a 1
  · exact b
theorem nuR_o {T : Nat → Nat} {p lo hi a b : Nat} {f : Vw} (h : a ≠ 452) : (nuR f T p lo hi).2 a b = f a b := by
  unfold nuR
  split
  · split
    · split
      · exact (vup_ne (Or.inl h)).trans (rkv_o (Or.inl h))
      · exact (flR_o (Or.inl h)).trans ((vup_ne (Or.inl h)).trans (rkv_o (Or.inl h)))
    · exact (flR_o (Or.inl h)).trans ((vup_ne (Or.inl h)).trans (rkv_o (Or.inl h)))
  · exact (flR_o (Or.inl h)).trans (rkv_o (Or.inl h))
theorem nuR_453 {D n c d p a : Nat} {T : Nat → Nat} {E V : Nat → Nat → Nat} {f g : Vw} (h : RS n T E V c d p f) (e : vM MT0 (D + 4) 235 [vR 452, vI 0, vI 9] f = some ((0, 0), vI a, g)) : g 453 4 = f 453 4 := by
  have hn := v_number (D := D + 1) h.tx h.at_ h.le h.er.1 (lo := 0) (hi := 9) (by decide) (by decide)
  have e2 : (some ((0, 0), vI a, g) : Option VR) = some ((0, 0), vI (nuR f T p 0 9).1, (nuR f T p 0 9).2) := e.symm.trans hn
  have hg2 : g = (nuR f T p 0 9).2 := congrArg (fun o : Option VR => match o with | some r => r.2.2 | none => f) e2
  rw [hg2]
  exact nuR_o (by decide)
theorem fg_1 {D F a : Nat} {f g h : Vw} {x : AV} {r : Option VR} (hx : x = vW 3 ∨ ∃ y, x = vI y) (e : vM MT0 D 235 [vR 452, vI 0, vI 9] f = some ((0, 0), vI a, g)) {is : Nat} (hs : (is = 1 ∧ g 453 4 < 12) ∨ (is = 0 ∧ g 453 4 = 12)) (m : vM MT0 D 230 [vR 452, vI is, vI 4] g = some ((1, 0), vW 3, h)) (e2 : vc3 (bv (h 452 20)) (bv 0) (vFn (vM MT0 D) nb_X11_fogLine F 5 0 [vR 452, vI a] [] h) (vFn (vM MT0 D) nb_X11_fogLine F 6 0 [vR 452, vI a] [] h) (vFn (vM MT0 D) nb_X11_fogLine F 5 0 [vR 452, vI a] [] h) = r) : vFn (vM MT0 D) nb_X11_fogLine (F + 3) 1 0 [vR 452, x] [] f = r := by
  rcases hs with ⟨rfl, hs⟩ | ⟨rfl, hs⟩
  · rcases hx with rfl | ⟨y, rfl⟩
    · (first | (refine (vbnd_0 e).trans ?_) | (refine (vF_g rfl rfl).trans ?_; refine (vF_g rfl rfl).trans ?_; refine (vbnd_0 e).trans ?_) | (refine (vF_g rfl rfl).trans ?_; refine (vbnd_0 e).trans ?_))
      (first | (refine (vlt (x := g 453 4) (y := 12) (by decide) hs).trans ?_) | (refine (vF_g rfl rfl).trans ?_; refine (vF_g rfl rfl).trans ?_; refine (vlt (x := g 453 4) (y := 12) (by decide) hs).trans ?_) | (refine (vF_g rfl rfl).trans ?_; refine (vlt (x := g 453 4) (y := 12) (by decide) hs).trans ?_))
      (first | (refine (vbnd_1 m).trans ?_) | (refine (vF_g rfl rfl).trans ?_; refine (vF_g rfl rfl).trans ?_; refine (vbnd_1 m).trans ?_) | (refine (vF_g rfl rfl).trans ?_; refine (vbnd_1 m).trans ?_))
      (first | (exact e2) | (refine (vF_g rfl rfl).trans ?_; refine (vF_g rfl rfl).trans ?_; exact e2) | (refine (vF_g rfl rfl).trans ?_; exact e2))
    · (first | (refine (vbnd_0 e).trans ?_) | (refine (vF_g rfl rfl).trans ?_; refine (vF_g rfl rfl).trans ?_; refine (vbnd_0 e).trans ?_) | (refine (vF_g rfl rfl).trans ?_; refine (vbnd_0 e).trans ?_))
      (first | (refine (vlt (x := g 453 4) (y := 12) (by decide) hs).trans ?_) | (refine (vF_g rfl rfl).trans ?_; refine (vF_g rfl rfl).trans ?_; refine (vlt (x := g 453 4) (y := 12) (by decide) hs).trans ?_) | (refine (vF_g rfl rfl).trans ?_; refine (vlt (x := g 453 4) (y := 12) (by decide) hs).trans ?_))
      (first | (refine (vbnd_1 m).trans ?_) | (refine (vF_g rfl rfl).trans ?_; refine (vF_g rfl rfl).trans ?_; refine (vbnd_1 m).trans ?_) | (refine (vF_g rfl rfl).trans ?_; refine (vbnd_1 m).trans ?_))
      (first | (exact e2) | (refine (vF_g rfl rfl).trans ?_; refine (vF_g rfl rfl).trans ?_; exact e2) | (refine (vF_g rfl rfl).trans ?_; exact e2))
  · rcases hx with rfl | ⟨y, rfl⟩
    · (first | (refine (vbnd_0 e).trans ?_) | (refine (vF_g rfl rfl).trans ?_; refine (vF_g rfl rfl).trans ?_; refine (vbnd_0 e).trans ?_) | (refine (vF_g rfl rfl).trans ?_; refine (vbnd_0 e).trans ?_))
      (first | (refine (veq hs).trans ?_) | (refine (vF_g rfl rfl).trans ?_; refine (vF_g rfl rfl).trans ?_; refine (veq hs).trans ?_) | (refine (vF_g rfl rfl).trans ?_; refine (veq hs).trans ?_))
      (first | (refine (vbnd_1 m).trans ?_) | (refine (vF_g rfl rfl).trans ?_; refine (vF_g rfl rfl).trans ?_; refine (vbnd_1 m).trans ?_) | (refine (vF_g rfl rfl).trans ?_; refine (vbnd_1 m).trans ?_))
      (first | (exact e2) | (refine (vF_g rfl rfl).trans ?_; refine (vF_g rfl rfl).trans ?_; exact e2) | (refine (vF_g rfl rfl).trans ?_; exact e2))
    · (first | (refine (vbnd_0 e).trans ?_) | (refine (vF_g rfl rfl).trans ?_; refine (vF_g rfl rfl).trans ?_; refine (vbnd_0 e).trans ?_) | (refine (vF_g rfl rfl).trans ?_; refine (vbnd_0 e).trans ?_))
      (first | (refine (veq hs).trans ?_) | (refine (vF_g rfl rfl).trans ?_; refine (vF_g rfl rfl).trans ?_; refine (veq hs).trans ?_) | (refine (vF_g rfl rfl).trans ?_; refine (veq hs).trans ?_))
      (first | (refine (vbnd_1 m).trans ?_) | (refine (vF_g rfl rfl).trans ?_; refine (vF_g rfl rfl).trans ?_; refine (vbnd_1 m).trans ?_) | (refine (vF_g rfl rfl).trans ?_; refine (vbnd_1 m).trans ?_))
      (first | (exact e2) | (refine (vF_g rfl rfl).trans ?_; refine (vF_g rfl rfl).trans ?_; exact e2) | (refine (vF_g rfl rfl).trans ?_; exact e2))
theorem fg_6 {D F a i b : Nat} {g h : Vw} {r : Option VR} (hi : g 453 4 = i) (h12 : i < 12) (e : vM MT0 D 236 [vR 452] (vup (vup g 453 (11 + i) a) 453 4 (i + 1)) = some ((0, 0), vI b, h)) (e2 : vc3 (bv b) (bv 0) (vFn (vM MT0 D) nb_X11_fogLine F 1 0 [vR 452, vI a] [] h) (vFn (vM MT0 D) nb_X11_fogLine F 7 0 [vR 452, vI a] [] h) (vFn (vM MT0 D) nb_X11_fogLine F 1 0 [vR 452, vI a] [] h) = r) : vFn (vM MT0 D) nb_X11_fogLine (F + 1) 6 0 [vR 452, vI a] [] g = r := by
  (first | (refine Eq.trans (b := gd (Nat.ble ((11 + g 453 4) % 4294967296 + 1) 627) (vB (vM MT0 D) (vFn (vM MT0 D) nb_X11_fogLine F) ((2, 1, 7, 1, 0, 0, 0), []) [(5, 2, 0, 0, 0, 0, 0), (21, 11, 0, 0, 0, 0, 0), (0, 4, 0, 0, 0, 0, 0), (13, 0, 0, 0, 0, 0, 0), (23, 0, 0, 0, 0, 0, 0), (0, 1, 0, 0, 0, 0, 0), (9, 0, 0, 0, 0, 0, 0), (24, 0, 0, 0, 0, 0, 0), (5, 2, 0, 0, 0, 0, 0), (31, 14, 236, 1, 0, 0, 0)] 0 [vR 452, vI a] [] (vup g 453 ((11 + g 453 4) % 4294967296) a))) rfl ?_) | (refine (vF_g rfl rfl).trans ?_; refine (vF_g rfl rfl).trans ?_; refine Eq.trans (b := gd (Nat.ble ((11 + g 453 4) % 4294967296 + 1) 627) (vB (vM MT0 D) (vFn (vM MT0 D) nb_X11_fogLine F) ((2, 1, 7, 1, 0, 0, 0), []) [(5, 2, 0, 0, 0, 0, 0), (21, 11, 0, 0, 0, 0, 0), (0, 4, 0, 0, 0, 0, 0), (13, 0, 0, 0, 0, 0, 0), (23, 0, 0, 0, 0, 0, 0), (0, 1, 0, 0, 0, 0, 0), (9, 0, 0, 0, 0, 0, 0), (24, 0, 0, 0, 0, 0, 0), (5, 2, 0, 0, 0, 0, 0), (31, 14, 236, 1, 0, 0, 0)] 0 [vR 452, vI a] [] (vup g 453 ((11 + g 453 4) % 4294967296) a))) rfl ?_) | (refine (vF_g rfl rfl).trans ?_; refine Eq.trans (b := gd (Nat.ble ((11 + g 453 4) % 4294967296 + 1) 627) (vB (vM MT0 D) (vFn (vM MT0 D) nb_X11_fogLine F) ((2, 1, 7, 1, 0, 0, 0), []) [(5, 2, 0, 0, 0, 0, 0), (21, 11, 0, 0, 0, 0, 0), (0, 4, 0, 0, 0, 0, 0), (13, 0, 0, 0, 0, 0, 0), (23, 0, 0, 0, 0, 0, 0), (0, 1, 0, 0, 0, 0, 0), (9, 0, 0, 0, 0, 0, 0), (24, 0, 0, 0, 0, 0, 0), (5, 2, 0, 0, 0, 0, 0), (31, 14, 236, 1, 0, 0, 0)] 0 [vR 452, vI a] [] (vup g 453 ((11 + g 453 4) % 4294967296) a))) rfl ?_))
  have hG : vup g 453 (11 + i) a 453 4 = i := (vup_ne (Or.inr (by omega))).trans hi
  rw [hi, Nat.mod_eq_of_lt (show 11 + i < 4294967296 by omega), Nat.ble_eq_true_of_le (show 11 + i + 1 ≤ 627 by omega)]
  generalize vup g 453 (11 + i) a = G at e hG
  (first | (refine Eq.trans (b := vbnd (vM MT0 D 236 [vR 452] (vup G 453 4 ((G 453 4 + 1) % 4294967296))) (fun v g => vB (vM MT0 D) (vFn (vM MT0 D) nb_X11_fogLine F) ((2, 1, 7, 1, 0, 0, 0), []) [] 0 [vR 452, vI a] (v :: []) g) (fun g => vB (vM MT0 D) (vFn (vM MT0 D) nb_X11_fogLine F) ((2, 1, 7, 1, 0, 0, 0), []) [] 0 [vR 452, vI a] [] g) (fun x g => gd false (some ((2, x), vW 3, g)))) rfl ?_) | (refine (vF_g rfl rfl).trans ?_; refine (vF_g rfl rfl).trans ?_; refine Eq.trans (b := vbnd (vM MT0 D 236 [vR 452] (vup G 453 4 ((G 453 4 + 1) % 4294967296))) (fun v g => vB (vM MT0 D) (vFn (vM MT0 D) nb_X11_fogLine F) ((2, 1, 7, 1, 0, 0, 0), []) [] 0 [vR 452, vI a] (v :: []) g) (fun g => vB (vM MT0 D) (vFn (vM MT0 D) nb_X11_fogLine F) ((2, 1, 7, 1, 0, 0, 0), []) [] 0 [vR 452, vI a] [] g) (fun x g => gd false (some ((2, x), vW 3, g)))) rfl ?_) | (refine (vF_g rfl rfl).trans ?_; refine Eq.trans (b := vbnd (vM MT0 D 236 [vR 452] (vup G 453 4 ((G 453 4 + 1) % 4294967296))) (fun v g => vB (vM MT0 D) (vFn (vM MT0 D) nb_X11_fogLine F) ((2, 1, 7, 1, 0, 0, 0), []) [] 0 [vR 452, vI a] (v :: []) g) (fun g => vB (vM MT0 D) (vFn (vM MT0 D) nb_X11_fogLine F) ((2, 1, 7, 1, 0, 0, 0), []) [] 0 [vR 452, vI a] [] g) (fun x g => gd false (some ((2, x), vW 3, g)))) rfl ?_))
  rw [hG, Nat.mod_eq_of_lt (show i + 1 < 4294967296 by omega)]
  (first | (refine (vbnd_0 e).trans ?_) | (refine (vF_g rfl rfl).trans ?_; refine (vF_g rfl rfl).trans ?_; refine (vbnd_0 e).trans ?_) | (refine (vF_g rfl rfl).trans ?_; refine (vbnd_0 e).trans ?_))
  (first | (exact e2) | (refine (vF_g rfl rfl).trans ?_; refine (vF_g rfl rfl).trans ?_; exact e2) | (refine (vF_g rfl rfl).trans ?_; exact e2))
theorem rs_lo {n c d p i x : Nat} {T : Nat → Nat} {E V : Nat → Nat → Nat} {f : Vw} (h : RS n T E V c d p f) (h1 : 2 ≤ i) (h2 : i < 23) : RS n T E V c d p (vup f 453 i x) := rs_of h (vup_ne (Or.inl (by decide))) (fun _ => vup_ne (Or.inl (by decide))) ((vup_ne (Or.inl (by decide))).trans h.at_) h.le (vup_ne (Or.inl (by decide))) (vup_ne (Or.inl (by decide))) (vup_ne (Or.inr (by omega))) (vup_ne (Or.inr (by omega))) (fun y hy hy2 => vup_ne (Or.inr (by omega))) (fun y hy hy2 => vup_ne (Or.inr (by omega)))
theorem v_fogLR {D n c d : Nat} {T : Nat → Nat} {E V : Nat → Nat → Nat} : ∀ (m i p q F : Nat) (f : Vw) (x : AV), (x = vW 3 ∨ ∃ y, x = vI y) → i + m = 12 → 4 * m + 6 ≤ F → RS n T E V c d p f → (i = 0 ∨ tK T p = 2) → f 453 4 = i → ((oFogL T (m + 1) i q p).1 = 0 → ∃ g, vFn (vM MT0 (D + 4)) nb_X11_fogLine F 1 0 [vR 452, x] [] f = some ((1, 0), vW 3, g) ∧ RS n T E V c d (oFogL T (m + 1) i q p).2 g) ∧ ((oFogL T (m + 1) i q p).1 ≠ 0 → ∃ g, vFn (vM MT0 (D + 4)) nb_X11_fogLine F 1 0 [vR 452, x] [] f = some ((1, 0), vW 3, g) ∧ ERR (oFogL T (m + 1) i q p).1 (oFogL T (m + 1) i q p).2 g) := by
  intro m
  induction m with
  | zero =>
    intro i p q F f x hx hi hF h hk hf
    obtain ⟨F1, rfl⟩ : ∃ F1, F = F1 + 3 + 3 := ⟨F - 6, by omega⟩
    have k0 : ¬ (0 < i ∧ tK T p = 3) := by omega
    obtain ⟨w1, w2⟩ := v_numR (D := D + 1) (lo := 0) (hi := 9) h (by decide) (by decide)
    by_cases k1 : nuC T p 0 9 = 0
    · rw [show oFogL T (0 + 1) i q p = (4, tS T p) from (if_neg k0).trans (if_pos k1)]
      have hn := v_number (D := D + 1) h.tx h.at_ h.le h.er.1 (lo := 0) (hi := 9) (by decide) (by decide)
      obtain ⟨g, e, hg, fr, _⟩ := w1 k1
      have g4 : g 453 4 = 12 := (fr _ _ (by decide)).trans (hf.trans (by omega))
      have g18 : g 452 18 = tS T p := by
        have e2 : (some ((0, 0), vI (tV T p), g) : Option VR) = some ((0, 0), vI (nuR f T p 0 9).1, (nuR f T p 0 9).2) := e.symm.trans hn
        have hg2 : g = (nuR f T p 0 9).2 := congrArg (fun o : Option VR => match o with | some r => r.2.2 | none => f) e2
        rw [hg2]
        exact nuR_18
      have m1 : vM MT0 (D + 4) 230 [vR 452, vI 0, vI 4] g = some ((1, 0), vW 3, flR 4 g) := by
        rw [v_must (Or.inl rfl) (by rw [hg.er.1]; decide), if_pos ⟨rfl, hg.er.1⟩]
      exact ⟨fun w => absurd w n41, fun _ => ⟨_, fg_1 hx e (Or.inr ⟨rfl, g4⟩) m1 ((by (first | (refine (vne (x := flR 4 g 452 20) (y := 0) (by rw [flR_20]; decide) (by decide) (by rw [flR_20]; decide)).trans ?_) | (refine (vF_g rfl rfl).trans ?_; refine (vF_g rfl rfl).trans ?_; refine (vne (x := flR 4 g 452 20) (y := 0) (by rw [flR_20]; decide) (by decide) (by rw [flR_20]; decide)).trans ?_) | (refine (vF_g rfl rfl).trans ?_; refine (vne (x := flR 4 g 452 20) (y := 0) (by rw [flR_20]; decide) (by decide) (by rw [flR_20]; decide)).trans ?_)); (first | (exact rfl) | (refine (vF_g rfl rfl).trans ?_; refine (vF_g rfl rfl).trans ?_; exact rfl) | (refine (vF_g rfl rfl).trans ?_; refine (vF_g rfl rfl).trans ?_; refine (vF_g rfl rfl).trans ?_; exact rfl) | (refine (vF_g rfl rfl).trans ?_; exact rfl)))), err_fl (e := 4) g18 (show (4 : Nat) ≠ 0 by decide) (show (4 : Nat) < 4294967296 by decide)⟩⟩
    · rw [show oFogL T (0 + 1) i q p = (nuC T p 0 9, tS T p) from (if_neg k0).trans (if_neg k1)]
      obtain ⟨g, e, hg⟩ := w2 k1
      have hs : ∃ is, ((is = 1 ∧ g 453 4 < 12) ∨ (is = 0 ∧ g 453 4 = 12)) ∧ (is = 0 ∨ is = 1) := ⟨0, Or.inr ⟨rfl, (nuR_453 h e).trans (hf.trans (by omega))⟩, Or.inl rfl⟩
      obtain ⟨is, hs1, hs2⟩ := hs
      have m1 : vM MT0 (D + 4) 230 [vR 452, vI is, vI 4] g = some ((1, 0), vW 3, g) := by
        rw [v_must hs2 (by rw [hg.1]; exact hg.2.2.2), if_neg (fun w => hg.2.2.1 (hg.1.symm.trans w.2))]
      exact ⟨fun w => absurd w k1, fun _ => ⟨g, fg_1 hx e hs1 m1 ((by (first | (refine (vne (x := g 452 20) (y := 0) (by rw [hg.1]; exact hg.2.2.2) (by decide) (by rw [hg.1]; exact hg.2.2.1)).trans ?_) | (refine (vF_g rfl rfl).trans ?_; refine (vF_g rfl rfl).trans ?_; refine (vne (x := g 452 20) (y := 0) (by rw [hg.1]; exact hg.2.2.2) (by decide) (by rw [hg.1]; exact hg.2.2.1)).trans ?_) | (refine (vF_g rfl rfl).trans ?_; refine (vne (x := g 452 20) (y := 0) (by rw [hg.1]; exact hg.2.2.2) (by decide) (by rw [hg.1]; exact hg.2.2.1)).trans ?_)); (first | (exact rfl) | (refine (vF_g rfl rfl).trans ?_; refine (vF_g rfl rfl).trans ?_; exact rfl) | (refine (vF_g rfl rfl).trans ?_; refine (vF_g rfl rfl).trans ?_; refine (vF_g rfl rfl).trans ?_; exact rfl) | (refine (vF_g rfl rfl).trans ?_; exact rfl)))), hg⟩⟩
  | succ m ih =>
    intro i p q F f x hx hi hF h hk hf
    obtain ⟨F1, rfl⟩ : ∃ F1, F = F1 + 1 + 3 := ⟨F - 4, by omega⟩
    have k0 : ¬ (0 < i ∧ tK T p = 3) := by omega
    obtain ⟨w1, w2⟩ := v_numR (D := D + 1) (lo := 0) (hi := 9) h (by decide) (by decide)
    by_cases k1 : nuC T p 0 9 = 0
    · rw [show oFogL T (m + 1 + 1) i q p = oFogL T (m + 1) (i + 1) (tS T p) (tE T p) from (if_neg k0).trans (if_pos k1)]
      obtain ⟨g, e, hg, fr, _⟩ := w1 k1
      have g4 : g 453 4 = i := (fr _ _ (by decide)).trans hf
      have m1 : vM MT0 (D + 4) 230 [vR 452, vI 1, vI 4] g = some ((1, 0), vW 3, g) := by
        rw [v_must (Or.inr rfl) (by rw [hg.er.1]; decide), if_neg (fun w => by cases w.1)]
      have hG : RS n T E V c d (tE T p) (vup (vup g 453 (11 + i) (tV T p)) 453 4 (i + 1)) := rs_lo (rs_lo hg (by omega) (by omega)) (by decide) (by decide)
      have en := v_isNumberNext (D := D + 1) hG
      have hG2 := rs_rkv hG
      have hid := tS_i hG.tx.1 hG.tx.2.2.2.2 hG.le
      have h4 : rkv (vup (vup g 453 (11 + i) (tV T p)) 453 4 (i + 1)) T (tE T p) 453 4 = i + 1 := (rkv_o (Or.inl (by decide))).trans vup_eq
      by_cases k2 : tK T (tE T p) = 2
      · rw [if_pos k2] at en
        have eo : oFogL T (m + 1) (i + 1) (tS T p) (tE T p) = oFogL T (m + 1) (i + 1) (tS T p) (tS T (tE T p)) := by
          show (if 0 < i + 1 ∧ tK T (tE T p) = 3 then (0, tE T (tE T p)) else if nuC T (tE T p) 0 9 = 0 then oFogL T m (i + 1 + 1) (tS T (tE T p)) (tE T (tE T p)) else (nuC T (tE T p) 0 9, tS T (tE T p))) = (if 0 < i + 1 ∧ tK T (tS T (tE T p)) = 3 then (0, tE T (tS T (tE T p))) else if nuC T (tS T (tE T p)) 0 9 = 0 then oFogL T m (i + 1 + 1) (tS T (tS T (tE T p))) (tE T (tS T (tE T p))) else (nuC T (tS T (tE T p)) 0 9, tS T (tS T (tE T p))))
          rw [tK_i hid, tE_i hid, nu_i hid, hid]
        rw [eo]
        have k3 : tK T (tS T (tE T p)) = 2 := (tK_i hid).trans k2
        obtain ⟨t1, t2⟩ := ih (i + 1) (tS T (tE T p)) (tS T p) F1 _ (vI (tV T p)) (Or.inr ⟨_, rfl⟩) (by omega) (by omega) hG2 (Or.inr k3) h4
        have st : ∀ r, vFn (vM MT0 (D + 4)) nb_X11_fogLine F1 1 0 [vR 452, vI (tV T p)] [] (rkv (vup (vup g 453 (11 + i) (tV T p)) 453 4 (i + 1)) T (tE T p)) = r → vFn (vM MT0 (D + 4)) nb_X11_fogLine (F1 + 1 + 3) 1 0 [vR 452, x] [] f = r := fun r hr => fg_1 hx e (Or.inl ⟨rfl, by rw [g4]; omega⟩) m1 ((by (first | (refine (veq hg.er.1).trans ?_) | (refine (vF_g rfl rfl).trans ?_; refine (vF_g rfl rfl).trans ?_; refine (veq hg.er.1).trans ?_) | (refine (vF_g rfl rfl).trans ?_; refine (veq hg.er.1).trans ?_)); (first | (exact (fg_6 g4 (by omega) en ((by (first | (refine (vgt (x := 1) (y := 0) (by decide) (by decide)).trans ?_) | (refine (vF_g rfl rfl).trans ?_; refine (vF_g rfl rfl).trans ?_; refine (vgt (x := 1) (y := 0) (by decide) (by decide)).trans ?_) | (refine (vF_g rfl rfl).trans ?_; refine (vgt (x := 1) (y := 0) (by decide) (by decide)).trans ?_)); (first | (exact hr) | (refine (vF_g rfl rfl).trans ?_; refine (vF_g rfl rfl).trans ?_; exact hr) | (refine (vF_g rfl rfl).trans ?_; exact hr)))))) | (refine (vF_g rfl rfl).trans ?_; refine (vF_g rfl rfl).trans ?_; exact (fg_6 g4 (by omega) en ((by (first | (refine (vgt (x := 1) (y := 0) (by decide) (by decide)).trans ?_) | (refine (vF_g rfl rfl).trans ?_; refine (vF_g rfl rfl).trans ?_; refine (vgt (x := 1) (y := 0) (by decide) (by decide)).trans ?_) | (refine (vF_g rfl rfl).trans ?_; refine (vgt (x := 1) (y := 0) (by decide) (by decide)).trans ?_)); (first | (exact hr) | (refine (vF_g rfl rfl).trans ?_; refine (vF_g rfl rfl).trans ?_; exact hr) | (refine (vF_g rfl rfl).trans ?_; exact hr)))))) | (refine (vF_g rfl rfl).trans ?_; exact (fg_6 g4 (by omega) en ((by (first | (refine (vgt (x := 1) (y := 0) (by decide) (by decide)).trans ?_) | (refine (vF_g rfl rfl).trans ?_; refine (vF_g rfl rfl).trans ?_; refine (vgt (x := 1) (y := 0) (by decide) (by decide)).trans ?_) | (refine (vF_g rfl rfl).trans ?_; refine (vgt (x := 1) (y := 0) (by decide) (by decide)).trans ?_)); (first | (exact hr) | (refine (vF_g rfl rfl).trans ?_; refine (vF_g rfl rfl).trans ?_; exact hr) | (refine (vF_g rfl rfl).trans ?_; exact hr)))))))))
        refine ⟨fun w => ?_, fun w => ?_⟩
        · obtain ⟨g', a, b⟩ := t1 w
          exact ⟨g', st _ a, b⟩
        · obtain ⟨g', a, b⟩ := t2 w
          exact ⟨g', st _ a, b⟩
      · rw [if_neg k2] at en
        obtain ⟨F2, rfl⟩ : ∃ F2, F1 = F2 + 1 := ⟨F1 - 1, by omega⟩
        have st : ∀ r, vFn (vM MT0 (D + 4)) nb_X11_fogLine (F2 + 1) 7 0 [vR 452, vI (tV T p)] [] (rkv (vup (vup g 453 (11 + i) (tV T p)) 453 4 (i + 1)) T (tE T p)) = r → vFn (vM MT0 (D + 4)) nb_X11_fogLine (F2 + 1 + 1 + 3) 1 0 [vR 452, x] [] f = r := fun r hr => fg_1 hx e (Or.inl ⟨rfl, by rw [g4]; omega⟩) m1 ((by (first | (refine (veq hg.er.1).trans ?_) | (refine (vF_g rfl rfl).trans ?_; refine (vF_g rfl rfl).trans ?_; refine (veq hg.er.1).trans ?_) | (refine (vF_g rfl rfl).trans ?_; refine (veq hg.er.1).trans ?_)); (first | (exact (fg_6 g4 (by omega) en ((by (first | (refine (veq (x := 0) (y := 0) rfl).trans ?_) | (refine (vF_g rfl rfl).trans ?_; refine (vF_g rfl rfl).trans ?_; refine (veq (x := 0) (y := 0) rfl).trans ?_) | (refine (vF_g rfl rfl).trans ?_; refine (veq (x := 0) (y := 0) rfl).trans ?_)); (first | (exact hr) | (refine (vF_g rfl rfl).trans ?_; refine (vF_g rfl rfl).trans ?_; exact hr) | (refine (vF_g rfl rfl).trans ?_; exact hr)))))) | (refine (vF_g rfl rfl).trans ?_; refine (vF_g rfl rfl).trans ?_; exact (fg_6 g4 (by omega) en ((by (first | (refine (veq (x := 0) (y := 0) rfl).trans ?_) | (refine (vF_g rfl rfl).trans ?_; refine (vF_g rfl rfl).trans ?_; refine (veq (x := 0) (y := 0) rfl).trans ?_) | (refine (vF_g rfl rfl).trans ?_; refine (veq (x := 0) (y := 0) rfl).trans ?_)); (first | (exact hr) | (refine (vF_g rfl rfl).trans ?_; refine (vF_g rfl rfl).trans ?_; exact hr) | (refine (vF_g rfl rfl).trans ?_; exact hr)))))) | (refine (vF_g rfl rfl).trans ?_; exact (fg_6 g4 (by omega) en ((by (first | (refine (veq (x := 0) (y := 0) rfl).trans ?_) | (refine (vF_g rfl rfl).trans ?_; refine (vF_g rfl rfl).trans ?_; refine (veq (x := 0) (y := 0) rfl).trans ?_) | (refine (vF_g rfl rfl).trans ?_; refine (veq (x := 0) (y := 0) rfl).trans ?_)); (first | (exact hr) | (refine (vF_g rfl rfl).trans ?_; refine (vF_g rfl rfl).trans ?_; exact hr) | (refine (vF_g rfl rfl).trans ?_; exact hr)))))))))
        obtain ⟨u1, u2⟩ := v_semiR (D := D + 1) hG2
        by_cases k3 : tK T (tE T p) = 3
        · rw [show oFogL T (m + 1) (i + 1) (tS T p) (tE T p) = (0, tE T (tE T p)) from if_pos ⟨by omega, k3⟩]
          obtain ⟨g', a, b, _⟩ := u1 ((tK_i hid).trans k3)
          rw [tE_i hid] at b
          exact ⟨fun _ => ⟨g', st _ ((by (first | (refine (vbnd_1 a).trans ?_) | (refine (vF_g rfl rfl).trans ?_; refine (vF_g rfl rfl).trans ?_; refine (vbnd_1 a).trans ?_) | (refine (vF_g rfl rfl).trans ?_; refine (vbnd_1 a).trans ?_)); (first | (exact rfl) | (refine (vF_g rfl rfl).trans ?_; refine (vF_g rfl rfl).trans ?_; exact rfl) | (refine (vF_g rfl rfl).trans ?_; refine (vF_g rfl rfl).trans ?_; refine (vF_g rfl rfl).trans ?_; exact rfl) | (refine (vF_g rfl rfl).trans ?_; exact rfl)))), b⟩, fun w => absurd rfl w⟩
        · have k4 : nuC T (tE T p) 0 9 = 1 := if_neg (fun w => k2 w.1)
          rw [show oFogL T (m + 1) (i + 1) (tS T p) (tE T p) = (1, tS T (tE T p)) from (if_neg (fun w => k3 w.2)).trans ((if_neg (by rw [k4]; decide)).trans (by rw [k4]))]
          obtain ⟨g', a, b⟩ := u2 (fun w => k3 ((tK_i hid).symm.trans w))
          rw [hid] at b
          exact ⟨fun w => absurd w n01, fun _ => ⟨g', st _ ((by (first | (refine (vbnd_1 a).trans ?_) | (refine (vF_g rfl rfl).trans ?_; refine (vF_g rfl rfl).trans ?_; refine (vbnd_1 a).trans ?_) | (refine (vF_g rfl rfl).trans ?_; refine (vbnd_1 a).trans ?_)); (first | (exact rfl) | (refine (vF_g rfl rfl).trans ?_; refine (vF_g rfl rfl).trans ?_; exact rfl) | (refine (vF_g rfl rfl).trans ?_; refine (vF_g rfl rfl).trans ?_; refine (vF_g rfl rfl).trans ?_; exact rfl) | (refine (vF_g rfl rfl).trans ?_; exact rfl)))), b⟩⟩
    · rw [show oFogL T (m + 1 + 1) i q p = (nuC T p 0 9, tS T p) from (if_neg k0).trans (if_neg k1)]
      obtain ⟨g, e, hg⟩ := w2 k1
      have m1 : vM MT0 (D + 4) 230 [vR 452, vI 1, vI 4] g = some ((1, 0), vW 3, g) := by
        rw [v_must (Or.inr rfl) (by rw [hg.1]; exact hg.2.2.2), if_neg (fun w => by cases w.1)]
      exact ⟨fun w => absurd w k1, fun _ => ⟨g, fg_1 hx e (Or.inl ⟨rfl, by rw [nuR_453 h e, hf]; omega⟩) m1 ((by (first | (refine (vne (x := g 452 20) (y := 0) (by rw [hg.1]; exact hg.2.2.2) (by decide) (by rw [hg.1]; exact hg.2.2.1)).trans ?_) | (refine (vF_g rfl rfl).trans ?_; refine (vF_g rfl rfl).trans ?_; refine (vne (x := g 452 20) (y := 0) (by rw [hg.1]; exact hg.2.2.2) (by decide) (by rw [hg.1]; exact hg.2.2.1)).trans ?_) | (refine (vF_g rfl rfl).trans ?_; refine (vne (x := g 452 20) (y := 0) (by rw [hg.1]; exact hg.2.2.2) (by decide) (by rw [hg.1]; exact hg.2.2.1)).trans ?_)); (first | (exact rfl) | (refine (vF_g rfl rfl).trans ?_; refine (vF_g rfl rfl).trans ?_; exact rfl) | (refine (vF_g rfl rfl).trans ?_; refine (vF_g rfl rfl).trans ?_; refine (vF_g rfl rfl).trans ?_; exact rfl) | (refine (vF_g rfl rfl).trans ?_; exact rfl)))), hg⟩⟩
