/-! the reference's commands on views: nothing but its reader's numbers is written -/
def F9r (f g : Vw) : Prop := ∀ a b, a ≠ 452 ∨ b < 17 ∨ 21 < b → g a b = f a b
theorem f9_r {f : Vw} {T : Nat → Nat} {p : Nat} : F9r f (rkv f T p) := fun a b w => rkv_o (by omega)
theorem f9_fl {f g : Vw} {e : Nat} (h : F9r f g) : F9r f (flR e g) := fun a b w => (show vup (vup g 452 20 e) 452 21 (g 452 18) a b = f a b from (vup_ne (by omega)).trans ((vup_ne (by omega)).trans (h a b w)))
theorem f9_up {f g : Vw} {x : Nat} (h : F9r f g) : F9r f (vup g 452 17 x) := fun a b w => (vup_ne (by omega)).trans (h a b w)
theorem r_isN {D n c d p : Nat} {T : Nat → Nat} {E V : Nat → Nat → Nat} {f : Vw} (h : RS n T E V c d p f) : (nOK T p → vM MT0 (D + 3) 237 [vR 452] f = some ((0, 0), vI 1, rkv f T p)) ∧ (¬ nOK T p → ∃ g, vM MT0 (D + 3) 237 [vR 452] f = some ((0, 0), vI 0, g) ∧ ERR 1 (tS T p) g ∧ F9r f g) := by
  have e := v_nextR (D := D) h.tx h.at_ h.le
  have hr := rs_rkv h
  have e20 : rkv f T p 452 20 = 0 := hr.er.1
  have hz := tZ_le h.tx.2.2.2.2 h.le
  have hn := h.tx.1
  have hq : (lsg 1 ≤ lsg (toNL (nI (rkv f T p 452 19)).toInt64) ∧ lsg (toNL (nI (rkv f T p 452 19)).toInt64) ≤ lsg 6) ↔ nOK T p := by
    rw [rkv_19, nOK_z, lsg_i2l, sg_eq (show tZ T p ≤ 2147483647 by omega), lsg_s (show 1 < 9223372036854775808 by decide), lsg_s (show 6 < 9223372036854775808 by decide)]
    omega
  refine ⟨fun k => ?_, fun k => ?_⟩
  · have m : vM MT0 (D + 2) 230 [vR 452, vI 1, vI 1] (rkv f T p) = some ((1, 0), vW 3, rkv f T p) := by
      rw [v_must (Or.inr rfl) (by rw [e20]; decide), if_neg (fun w => by cases w.1)]
    have i : vM MT0 (D + 2) 174 [vJ (toNL (nI (rkv f T p 452 19)).toInt64), vJ 1, vJ 6] (rkv f T p) = some ((0, 0), vI 1, rkv f T p) := by
      rw [v_in, if_pos (hq.mpr k)]
    refine vM_go rfl rfl rfl rfl fun F hF => ?_
    (first | (refine (veq h.er.1).trans ?_) | (refine (vF_g rfl rfl).trans ?_; refine (vF_g rfl rfl).trans ?_; refine (veq h.er.1).trans ?_) | (refine (vF_g rfl rfl).trans ?_; refine (veq h.er.1).trans ?_))
    (first | (refine (vbnd_0 e).trans ?_) | (refine (vF_g rfl rfl).trans ?_; refine (vF_g rfl rfl).trans ?_; refine (vbnd_0 e).trans ?_) | (refine (vF_g rfl rfl).trans ?_; refine (vbnd_0 e).trans ?_))
    (first | (refine (vbnd_0 i).trans ?_) | (refine (vF_g rfl rfl).trans ?_; refine (vF_g rfl rfl).trans ?_; refine (vbnd_0 i).trans ?_) | (refine (vF_g rfl rfl).trans ?_; refine (vbnd_0 i).trans ?_))
    (first | (refine (vbnd_1 m).trans ?_) | (refine (vF_g rfl rfl).trans ?_; refine (vF_g rfl rfl).trans ?_; refine (vbnd_1 m).trans ?_) | (refine (vF_g rfl rfl).trans ?_; refine (vbnd_1 m).trans ?_))
    (first | (refine (veq e20).trans ?_) | (refine (vF_g rfl rfl).trans ?_; refine (vF_g rfl rfl).trans ?_; refine (veq e20).trans ?_) | (refine (vF_g rfl rfl).trans ?_; refine (veq e20).trans ?_))
    (first | (exact rfl) | (refine (vF_g rfl rfl).trans ?_; refine (vF_g rfl rfl).trans ?_; exact rfl) | (refine (vF_g rfl rfl).trans ?_; refine (vF_g rfl rfl).trans ?_; refine (vF_g rfl rfl).trans ?_; exact rfl) | (refine (vF_g rfl rfl).trans ?_; exact rfl))
  · have m : vM MT0 (D + 2) 230 [vR 452, vI 0, vI 1] (rkv f T p) = some ((1, 0), vW 3, flR 1 (rkv f T p)) := by
      rw [v_must (Or.inl rfl) (by rw [e20]; decide), if_pos ⟨rfl, e20⟩]
    have i : vM MT0 (D + 2) 174 [vJ (toNL (nI (rkv f T p 452 19)).toInt64), vJ 1, vJ 6] (rkv f T p) = some ((0, 0), vI 0, rkv f T p) := by
      rw [v_in, if_neg (fun w => k (hq.mp w))]
    exact ⟨_, vM_go rfl rfl rfl rfl fun F hF => (by (first | (refine (veq h.er.1).trans ?_) | (refine (vF_g rfl rfl).trans ?_; refine (vF_g rfl rfl).trans ?_; refine (veq h.er.1).trans ?_) | (refine (vF_g rfl rfl).trans ?_; refine (veq h.er.1).trans ?_)); (first | (refine (vbnd_0 e).trans ?_) | (refine (vF_g rfl rfl).trans ?_; refine (vF_g rfl rfl).trans ?_; refine (vbnd_0 e).trans ?_) | (refine (vF_g rfl rfl).trans ?_; refine (vbnd_0 e).trans ?_)); (first | (refine (vbnd_0 i).trans ?_) | (refine (vF_g rfl rfl).trans ?_; refine (vF_g rfl rfl).trans ?_; refine (vbnd_0 i).trans ?_) | (refine (vF_g rfl rfl).trans ?_; refine (vbnd_0 i).trans ?_)); (first | (refine (vbnd_1 m).trans ?_) | (refine (vF_g rfl rfl).trans ?_; refine (vF_g rfl rfl).trans ?_; refine (vbnd_1 m).trans ?_) | (refine (vF_g rfl rfl).trans ?_; refine (vbnd_1 m).trans ?_)); (first | (refine (vne (x := flR 1 (rkv f T p) 452 20) (y := 0) (by rw [flR_20]; decide) (by decide) (by rw [flR_20]; decide)).trans ?_) | (refine (vF_g rfl rfl).trans ?_; refine (vF_g rfl rfl).trans ?_; refine (vne (x := flR 1 (rkv f T p) 452 20) (y := 0) (by rw [flR_20]; decide) (by decide) (by rw [flR_20]; decide)).trans ?_) | (refine (vF_g rfl rfl).trans ?_; refine (vne (x := flR 1 (rkv f T p) 452 20) (y := 0) (by rw [flR_20]; decide) (by decide) (by rw [flR_20]; decide)).trans ?_)); (first | (exact rfl) | (refine (vF_g rfl rfl).trans ?_; refine (vF_g rfl rfl).trans ?_; exact rfl) | (refine (vF_g rfl rfl).trans ?_; refine (vF_g rfl rfl).trans ?_; refine (vF_g rfl rfl).trans ?_; exact rfl) | (refine (vF_g rfl rfl).trans ?_; exact rfl))), err_fl rkv_18 (by decide) (by decide), f9_fl f9_r⟩
theorem r_semi {D n c d p : Nat} {T : Nat → Nat} {E V : Nat → Nat → Nat} {f : Vw} (h : RS n T E V c d p f) : (tK T p = 3 → ∃ g, vM MT0 (D + 3) 234 [vR 452] f = some ((1, 0), vW 3, g) ∧ RS n T E V c d (tE T p) g ∧ F9r f g) ∧ (tK T p ≠ 3 → ∃ g, vM MT0 (D + 3) 234 [vR 452] f = some ((1, 0), vW 3, g) ∧ ERR 1 (tS T p) g ∧ F9r f g) := by
  have e := v_nextR (D := D) h.tx h.at_ h.le
  have hr := rs_rkv h
  have e20 : rkv f T p 452 20 = 0 := hr.er.1
  have hn := h.tx.1
  have hs := tS_le h.tx.2.2.2.2 h.le
  have hT := h.tx.2.2.2.1 (tS T p)
  have k3 : tK T p = 3 ↔ T (tS T p) = 59 := by
    unfold tK kd9
    constructor
    · intro w
      by_cases a : 97 ≤ T (tS T p) ∧ T (tS T p) ≤ 122
      · rw [if_pos a] at w
        cases w
      · rw [if_neg a] at w
        by_cases b : 48 ≤ T (tS T p) ∧ T (tS T p) ≤ 57
        · rw [if_pos b] at w
          cases w
        · rw [if_neg b] at w
          by_cases q : T (tS T p) = 59
          · exact q
          · rw [if_neg q] at w
            split at w
            · cases w
            · split at w <;> cases w
    · intro w
      rw [w]
      (first | (exact rfl) | (refine (vF_g rfl rfl).trans ?_; refine (vF_g rfl rfl).trans ?_; exact rfl) | (refine (vF_g rfl rfl).trans ?_; refine (vF_g rfl rfl).trans ?_; refine (vF_g rfl rfl).trans ?_; exact rfl) | (refine (vF_g rfl rfl).trans ?_; exact rfl))
  refine ⟨fun k => ?_, fun k => ?_⟩
  · have m : vM MT0 (D + 2) 230 [vR 452, vI 1, vI 1] (rkv f T p) = some ((1, 0), vW 3, rkv f T p) := by
      rw [v_must (Or.inr rfl) (by rw [e20]; decide), if_neg (fun w => by cases w.1)]
    have hE : tE T p = tS T p + 1 := by
      unfold tE
      rw [if_neg (by omega), if_neg (by omega)]
    have hE2 := (tE_ge h.tx.2.2.2.2 h.le).2
    refine ⟨vup (rkv f T p) 452 17 (tE T p), ?_, rs_past hr hE2, f9_up f9_r⟩
    refine vM_go rfl rfl rfl rfl fun F hF => ?_
    (first | (refine (veq h.er.1).trans ?_) | (refine (vF_g rfl rfl).trans ?_; refine (vF_g rfl rfl).trans ?_; refine (veq h.er.1).trans ?_) | (refine (vF_g rfl rfl).trans ?_; refine (veq h.er.1).trans ?_))
    (first | (refine (vbnd_0 e).trans ?_) | (refine (vF_g rfl rfl).trans ?_; refine (vF_g rfl rfl).trans ?_; refine (vbnd_0 e).trans ?_) | (refine (vF_g rfl rfl).trans ?_; refine (vbnd_0 e).trans ?_))
    (first | (refine (veq (k3.mp k)).trans ?_) | (refine (vF_g rfl rfl).trans ?_; refine (vF_g rfl rfl).trans ?_; refine (veq (k3.mp k)).trans ?_) | (refine (vF_g rfl rfl).trans ?_; refine (veq (k3.mp k)).trans ?_))
    (first | (refine (vbnd_1 m).trans ?_) | (refine (vF_g rfl rfl).trans ?_; refine (vF_g rfl rfl).trans ?_; refine (vbnd_1 m).trans ?_) | (refine (vF_g rfl rfl).trans ?_; refine (vbnd_1 m).trans ?_))
    (first | (refine Eq.trans (b := some ((1, 0), vW 3, vup (rkv f T p) 452 17 ((rkv f T p 452 17 + 1) % 4294967296))) rfl ?_) | (refine (vF_g rfl rfl).trans ?_; refine (vF_g rfl rfl).trans ?_; refine Eq.trans (b := some ((1, 0), vW 3, vup (rkv f T p) 452 17 ((rkv f T p 452 17 + 1) % 4294967296))) rfl ?_) | (refine (vF_g rfl rfl).trans ?_; refine Eq.trans (b := some ((1, 0), vW 3, vup (rkv f T p) 452 17 ((rkv f T p 452 17 + 1) % 4294967296))) rfl ?_))
    rw [rkv_17, hE, Nat.mod_eq_of_lt (show tS T p + 1 < 4294967296 by omega)]
  · have m : vM MT0 (D + 2) 230 [vR 452, vI 0, vI 1] (rkv f T p) = some ((1, 0), vW 3, flR 1 (rkv f T p)) := by
      rw [v_must (Or.inl rfl) (by rw [e20]; decide), if_pos ⟨rfl, e20⟩]
    exact ⟨_, vM_go rfl rfl rfl rfl fun F hF => (by (first | (refine (veq h.er.1).trans ?_) | (refine (vF_g rfl rfl).trans ?_; refine (vF_g rfl rfl).trans ?_; refine (veq h.er.1).trans ?_) | (refine (vF_g rfl rfl).trans ?_; refine (veq h.er.1).trans ?_)); (first | (refine (vbnd_0 e).trans ?_) | (refine (vF_g rfl rfl).trans ?_; refine (vF_g rfl rfl).trans ?_; refine (vbnd_0 e).trans ?_) | (refine (vF_g rfl rfl).trans ?_; refine (vbnd_0 e).trans ?_)); (first | (refine (vne (x := T (tS T p)) (y := 59) (by omega) (by decide) (fun w => k (k3.mpr w))).trans ?_) | (refine (vF_g rfl rfl).trans ?_; refine (vF_g rfl rfl).trans ?_; refine (vne (x := T (tS T p)) (y := 59) (by omega) (by decide) (fun w => k (k3.mpr w))).trans ?_) | (refine (vF_g rfl rfl).trans ?_; refine (vne (x := T (tS T p)) (y := 59) (by omega) (by decide) (fun w => k (k3.mpr w))).trans ?_)); (first | (refine (vbnd_1 m).trans ?_) | (refine (vF_g rfl rfl).trans ?_; refine (vF_g rfl rfl).trans ?_; refine (vbnd_1 m).trans ?_) | (refine (vF_g rfl rfl).trans ?_; refine (vbnd_1 m).trans ?_)); (first | (exact rfl) | (refine (vF_g rfl rfl).trans ?_; refine (vF_g rfl rfl).trans ?_; exact rfl) | (refine (vF_g rfl rfl).trans ?_; refine (vF_g rfl rfl).trans ?_; refine (vF_g rfl rfl).trans ?_; exact rfl) | (refine (vF_g rfl rfl).trans ?_; exact rfl))), err_up (err_fl rkv_18 (by decide) (by decide)) (Or.inr (by decide)), f9_up (f9_fl f9_r)⟩
theorem r_num {D lo hi n c d p : Nat} {T : Nat → Nat} {E V : Nat → Nat → Nat} {f : Vw} (h : RS n T E V c d p f) (hlo : lo < 10000) (hhi : hi < 10000) : (nuC T p lo hi = 0 → ∃ g, vM MT0 (D + 3) 235 [vR 452, vI lo, vI hi] f = some ((0, 0), vI (tV T p), g) ∧ RS n T E V c d (tE T p) g ∧ F9r f g ∧ tV T p < 10000) ∧ (nuC T p lo hi ≠ 0 → ∃ g, vM MT0 (D + 3) 235 [vR 452, vI lo, vI hi] f = some ((0, 0), vI lo, g) ∧ ERR (nuC T p lo hi) (tS T p) g ∧ F9r f g) := by
  have e := v_number (D := D) h.tx h.at_ h.le h.er.1 hlo hhi
  have hr := rs_rkv h
  have hE := (tE_ge h.tx.2.2.2.2 h.le).2
  have hs := tS_le h.tx.2.2.2.2 h.le
  unfold nuR at e
  by_cases c1 : tK T p = 2
  · obtain ⟨q1, q2⟩ := nE_is c1
    rw [if_pos (show kd9 (T (tS T p)) = 2 from c1), q1, q2] at e
    by_cases c2 : tE T p - tS T p ≤ 4
    · rw [if_pos c2] at e
      by_cases c3 : lo ≤ tV T p ∧ tV T p ≤ hi
      · rw [if_pos c3] at e
        have e0 : nuC T p lo hi = 0 := (if_pos ⟨c1, c2⟩).trans (if_pos c3)
        exact ⟨fun _ => ⟨_, e, rs_past hr hE, f9_up f9_r, by omega⟩, fun w => absurd e0 w⟩
      · rw [if_neg c3] at e
        have e0 : nuC T p lo hi = 2 := (if_pos ⟨c1, c2⟩).trans (if_neg c3)
        rw [e0]
        exact ⟨fun w => (by cases w), fun _ => ⟨_, e, err_fl ((vup_ne (Or.inr (by decide))).trans rkv_18) (by decide) (by decide), f9_fl (f9_up f9_r)⟩⟩
    · rw [if_neg c2] at e
      have e0 : nuC T p lo hi = 1 := if_neg (fun w => c2 w.2)
      rw [e0]
      exact ⟨fun w => (by cases w), fun _ => ⟨_, e, err_fl ((vup_ne (Or.inr (by decide))).trans rkv_18) (by decide) (by decide), f9_fl (f9_up f9_r)⟩⟩
  · rw [if_neg (show ¬ kd9 (T (tS T p)) = 2 from c1)] at e
    have e0 : nuC T p lo hi = 1 := if_neg (fun w => c1 w.1)
    rw [e0]
    exact ⟨fun w => (by cases w), fun _ => ⟨_, e, err_fl rkv_18 (by decide) (by decide), f9_fl f9_r⟩⟩
theorem r_itE {D : Nat} {n c d p : Nat} {T : Nat → Nat} {E V : Nat → Nat → Nat} {f : Vw} (h : RS n T E V c d p f) : (¬ nOK T p → ∃ g, vM MT0 (D + 4) 241 [vR 452, vI 0] f = some ((0, 0), vI 0, g) ∧ ERR 1 (tS T p) g ∧ F9r f g) ∧ (nOK T p → fidx (fun j => E j 0) (pkr (tN T p)) c 0 = 4294967295 → ∃ g, vM MT0 (D + 4) 241 [vR 452, vI 0] f = some ((0, 0), vI 0, g) ∧ ERR 3 (tS T p) g ∧ F9r f g) ∧ (nOK T p → fidx (fun j => E j 0) (pkr (tN T p)) c 0 ≠ 4294967295 → ∃ g, vM MT0 (D + 4) 241 [vR 452, vI 0] f = some ((0, 0), vI (fidx (fun j => E j 0) (pkr (tN T p)) c 0), g) ∧ RS n T E V c d (tE T p) g ∧ F9r f g) := by
  obtain ⟨w1, w2⟩ := r_isN (D := D) h
  have hr := rs_rkv h
  have e20 : rkv f T p 452 20 = 0 := hr.er.1
  have hn := h.tx.1
  have hE := tE_ge h.tx.2.2.2.2 h.le
  have hl : fidx (fun j => E j 0) (pkr (tN T p)) c 0 < 4294967296 := by
    have := h.c9
    rcases fidx_lt (g := fun j => E j 0) (x := pkr (tN T p)) c 0 with q | ⟨_, q, _⟩ <;> omega
  refine ⟨fun k => ?_, fun k k2 => ?_, fun k k2 => ?_⟩
  · obtain ⟨g, e, hg⟩ := w2 k
    exact ⟨g, vM_go rfl rfl rfl rfl fun F hF => (by (first | (refine (vbnd_0 e).trans ?_) | (refine (vF_g rfl rfl).trans ?_; refine (vF_g rfl rfl).trans ?_; refine (vbnd_0 e).trans ?_) | (refine (vF_g rfl rfl).trans ?_; refine (vbnd_0 e).trans ?_)); (first | (refine (veq (x := 0) (y := 0) rfl).trans ?_) | (refine (vF_g rfl rfl).trans ?_; refine (vF_g rfl rfl).trans ?_; refine (veq (x := 0) (y := 0) rfl).trans ?_) | (refine (vF_g rfl rfl).trans ?_; refine (veq (x := 0) (y := 0) rfl).trans ?_)); (first | (exact rfl) | (refine (vF_g rfl rfl).trans ?_; refine (vF_g rfl rfl).trans ?_; exact rfl) | (refine (vF_g rfl rfl).trans ?_; refine (vF_g rfl rfl).trans ?_; refine (vF_g rfl rfl).trans ?_; exact rfl) | (refine (vF_g rfl rfl).trans ?_; exact rfl))), hg⟩
  · have e := v_thingE (D := D) h k
    have m : vM MT0 (D + 3) 230 [vR 452, vI 0, vI 3] (rkv f T p) = some ((1, 0), vW 3, flR 3 (rkv f T p)) := by
      rw [v_must (Or.inl rfl) (by rw [e20]; decide), if_pos ⟨rfl, e20⟩]
    refine ⟨vup (flR 3 (rkv f T p)) 452 17 ((flR 3 (rkv f T p) 452 18 + flR 3 (rkv f T p) 452 19) % 4294967296), vM_go rfl rfl rfl rfl fun F hF => (by (first | (refine (vbnd_0 (w1 k)).trans ?_) | (refine (vF_g rfl rfl).trans ?_; refine (vF_g rfl rfl).trans ?_; refine (vbnd_0 (w1 k)).trans ?_) | (refine (vF_g rfl rfl).trans ?_; refine (vbnd_0 (w1 k)).trans ?_)); (first | (refine (vgt (x := 1) (y := 0) (by decide) (by decide)).trans ?_) | (refine (vF_g rfl rfl).trans ?_; refine (vF_g rfl rfl).trans ?_; refine (vgt (x := 1) (y := 0) (by decide) (by decide)).trans ?_) | (refine (vF_g rfl rfl).trans ?_; refine (vgt (x := 1) (y := 0) (by decide) (by decide)).trans ?_)); (first | (refine (vbnd_0 e).trans ?_) | (refine (vF_g rfl rfl).trans ?_; refine (vF_g rfl rfl).trans ?_; refine (vbnd_0 e).trans ?_) | (refine (vF_g rfl rfl).trans ?_; refine (vbnd_0 e).trans ?_)); (first | (refine (veq k2).trans ?_) | (refine (vF_g rfl rfl).trans ?_; refine (vF_g rfl rfl).trans ?_; refine (veq k2).trans ?_) | (refine (vF_g rfl rfl).trans ?_; refine (veq k2).trans ?_)); (first | (refine (vbnd_1 m).trans ?_) | (refine (vF_g rfl rfl).trans ?_; refine (vF_g rfl rfl).trans ?_; refine (vbnd_1 m).trans ?_) | (refine (vF_g rfl rfl).trans ?_; refine (vbnd_1 m).trans ?_)); (first | (refine (vbnd_1 v_goesPast).trans ?_) | (refine (vF_g rfl rfl).trans ?_; refine (vF_g rfl rfl).trans ?_; refine (vbnd_1 v_goesPast).trans ?_) | (refine (vF_g rfl rfl).trans ?_; refine (vbnd_1 v_goesPast).trans ?_)); (first | (refine (vne (x := vup (flR 3 (rkv f T p)) 452 17 ((flR 3 (rkv f T p) 452 18 + flR 3 (rkv f T p) 452 19) % 4294967296) 452 20) (y := 0) (by rw [vup_ne (Or.inr (by decide)), flR_20]; decide) (by decide) (by rw [vup_ne (Or.inr (by decide)), flR_20]; decide)).trans ?_) | (refine (vF_g rfl rfl).trans ?_; refine (vF_g rfl rfl).trans ?_; refine (vne (x := vup (flR 3 (rkv f T p)) 452 17 ((flR 3 (rkv f T p) 452 18 + flR 3 (rkv f T p) 452 19) % 4294967296) 452 20) (y := 0) (by rw [vup_ne (Or.inr (by decide)), flR_20]; decide) (by decide) (by rw [vup_ne (Or.inr (by decide)), flR_20]; decide)).trans ?_) | (refine (vF_g rfl rfl).trans ?_; refine (vne (x := vup (flR 3 (rkv f T p)) 452 17 ((flR 3 (rkv f T p) 452 18 + flR 3 (rkv f T p) 452 19) % 4294967296) 452 20) (y := 0) (by rw [vup_ne (Or.inr (by decide)), flR_20]; decide) (by decide) (by rw [vup_ne (Or.inr (by decide)), flR_20]; decide)).trans ?_)); (first | (exact rfl) | (refine (vF_g rfl rfl).trans ?_; refine (vF_g rfl rfl).trans ?_; exact rfl) | (refine (vF_g rfl rfl).trans ?_; refine (vF_g rfl rfl).trans ?_; refine (vF_g rfl rfl).trans ?_; exact rfl) | (refine (vF_g rfl rfl).trans ?_; exact rfl))), err_up (err_fl rkv_18 (by decide) (by decide)) (Or.inr (by decide)), f9_up (f9_fl f9_r)⟩
  · have e := v_thingE (D := D) h k
    have m : vM MT0 (D + 3) 230 [vR 452, vI 1, vI 3] (rkv f T p) = some ((1, 0), vW 3, rkv f T p) := by
      rw [v_must (Or.inr rfl) (by rw [e20]; decide), if_neg (fun w => by cases w.1)]
    have hz := tZ_E k.1
    have z : vM MT0 (D + 3) 232 [vR 452] (rkv f T p) = some ((1, 0), vW 3, vup (rkv f T p) 452 17 (tE T p)) := by
      rw [v_goesPast, rkv_18, rkv_19, hz, Nat.mod_eq_of_lt (by omega)]
    exact ⟨_, vM_go rfl rfl rfl rfl fun F hF => (by (first | (refine (vbnd_0 (w1 k)).trans ?_) | (refine (vF_g rfl rfl).trans ?_; refine (vF_g rfl rfl).trans ?_; refine (vbnd_0 (w1 k)).trans ?_) | (refine (vF_g rfl rfl).trans ?_; refine (vbnd_0 (w1 k)).trans ?_)); (first | (refine (vgt (x := 1) (y := 0) (by decide) (by decide)).trans ?_) | (refine (vF_g rfl rfl).trans ?_; refine (vF_g rfl rfl).trans ?_; refine (vgt (x := 1) (y := 0) (by decide) (by decide)).trans ?_) | (refine (vF_g rfl rfl).trans ?_; refine (vgt (x := 1) (y := 0) (by decide) (by decide)).trans ?_)); (first | (refine (vbnd_0 e).trans ?_) | (refine (vF_g rfl rfl).trans ?_; refine (vF_g rfl rfl).trans ?_; refine (vbnd_0 e).trans ?_) | (refine (vF_g rfl rfl).trans ?_; refine (vbnd_0 e).trans ?_)); (first | (refine (vne hl (by decide) k2).trans ?_) | (refine (vF_g rfl rfl).trans ?_; refine (vF_g rfl rfl).trans ?_; refine (vne hl (by decide) k2).trans ?_) | (refine (vF_g rfl rfl).trans ?_; refine (vne hl (by decide) k2).trans ?_)); (first | (refine (vbnd_1 m).trans ?_) | (refine (vF_g rfl rfl).trans ?_; refine (vF_g rfl rfl).trans ?_; refine (vbnd_1 m).trans ?_) | (refine (vF_g rfl rfl).trans ?_; refine (vbnd_1 m).trans ?_)); (first | (refine (vbnd_1 z).trans ?_) | (refine (vF_g rfl rfl).trans ?_; refine (vF_g rfl rfl).trans ?_; refine (vbnd_1 z).trans ?_) | (refine (vF_g rfl rfl).trans ?_; refine (vbnd_1 z).trans ?_)); (first | (refine (veq ((vup_ne (Or.inr (by decide))).trans e20)).trans ?_) | (refine (vF_g rfl rfl).trans ?_; refine (vF_g rfl rfl).trans ?_; refine (veq ((vup_ne (Or.inr (by decide))).trans e20)).trans ?_) | (refine (vF_g rfl rfl).trans ?_; refine (veq ((vup_ne (Or.inr (by decide))).trans e20)).trans ?_)); (first | (exact rfl) | (refine (vF_g rfl rfl).trans ?_; refine (vF_g rfl rfl).trans ?_; exact rfl) | (refine (vF_g rfl rfl).trans ?_; refine (vF_g rfl rfl).trans ?_; refine (vF_g rfl rfl).trans ?_; exact rfl) | (refine (vF_g rfl rfl).trans ?_; exact rfl))), rs_past hr hE.2, f9_up f9_r⟩
theorem r_itV {D : Nat} {n c d p : Nat} {T : Nat → Nat} {E V : Nat → Nat → Nat} {f : Vw} (h : RS n T E V c d p f) : (¬ nOK T p → ∃ g, vM MT0 (D + 4) 241 [vR 452, vI 1] f = some ((0, 0), vI 0, g) ∧ ERR 1 (tS T p) g ∧ F9r f g) ∧ (nOK T p → fidx (fun j => V j 0) (pkr (tN T p)) d 0 = 4294967295 → ∃ g, vM MT0 (D + 4) 241 [vR 452, vI 1] f = some ((0, 0), vI 0, g) ∧ ERR 3 (tS T p) g ∧ F9r f g) ∧ (nOK T p → fidx (fun j => V j 0) (pkr (tN T p)) d 0 ≠ 4294967295 → ∃ g, vM MT0 (D + 4) 241 [vR 452, vI 1] f = some ((0, 0), vI (fidx (fun j => V j 0) (pkr (tN T p)) d 0), g) ∧ RS n T E V c d (tE T p) g ∧ F9r f g) := by
  obtain ⟨w1, w2⟩ := r_isN (D := D) h
  have hr := rs_rkv h
  have e20 : rkv f T p 452 20 = 0 := hr.er.1
  have hn := h.tx.1
  have hE := tE_ge h.tx.2.2.2.2 h.le
  have hl : fidx (fun j => V j 0) (pkr (tN T p)) d 0 < 4294967296 := by
    have := h.d9
    rcases fidx_lt (g := fun j => V j 0) (x := pkr (tN T p)) d 0 with q | ⟨_, q, _⟩ <;> omega
  refine ⟨fun k => ?_, fun k k2 => ?_, fun k k2 => ?_⟩
  · obtain ⟨g, e, hg⟩ := w2 k
    exact ⟨g, vM_go rfl rfl rfl rfl fun F hF => (by (first | (refine (vbnd_0 e).trans ?_) | (refine (vF_g rfl rfl).trans ?_; refine (vF_g rfl rfl).trans ?_; refine (vbnd_0 e).trans ?_) | (refine (vF_g rfl rfl).trans ?_; refine (vbnd_0 e).trans ?_)); (first | (refine (veq (x := 0) (y := 0) rfl).trans ?_) | (refine (vF_g rfl rfl).trans ?_; refine (vF_g rfl rfl).trans ?_; refine (veq (x := 0) (y := 0) rfl).trans ?_) | (refine (vF_g rfl rfl).trans ?_; refine (veq (x := 0) (y := 0) rfl).trans ?_)); (first | (exact rfl) | (refine (vF_g rfl rfl).trans ?_; refine (vF_g rfl rfl).trans ?_; exact rfl) | (refine (vF_g rfl rfl).trans ?_; refine (vF_g rfl rfl).trans ?_; refine (vF_g rfl rfl).trans ?_; exact rfl) | (refine (vF_g rfl rfl).trans ?_; exact rfl))), hg⟩
  · have e := v_thingV (D := D) h k
    have m : vM MT0 (D + 3) 230 [vR 452, vI 0, vI 3] (rkv f T p) = some ((1, 0), vW 3, flR 3 (rkv f T p)) := by
      rw [v_must (Or.inl rfl) (by rw [e20]; decide), if_pos ⟨rfl, e20⟩]
    refine ⟨vup (flR 3 (rkv f T p)) 452 17 ((flR 3 (rkv f T p) 452 18 + flR 3 (rkv f T p) 452 19) % 4294967296), vM_go rfl rfl rfl rfl fun F hF => (by (first | (refine (vbnd_0 (w1 k)).trans ?_) | (refine (vF_g rfl rfl).trans ?_; refine (vF_g rfl rfl).trans ?_; refine (vbnd_0 (w1 k)).trans ?_) | (refine (vF_g rfl rfl).trans ?_; refine (vbnd_0 (w1 k)).trans ?_)); (first | (refine (vgt (x := 1) (y := 0) (by decide) (by decide)).trans ?_) | (refine (vF_g rfl rfl).trans ?_; refine (vF_g rfl rfl).trans ?_; refine (vgt (x := 1) (y := 0) (by decide) (by decide)).trans ?_) | (refine (vF_g rfl rfl).trans ?_; refine (vgt (x := 1) (y := 0) (by decide) (by decide)).trans ?_)); (first | (refine (vbnd_0 e).trans ?_) | (refine (vF_g rfl rfl).trans ?_; refine (vF_g rfl rfl).trans ?_; refine (vbnd_0 e).trans ?_) | (refine (vF_g rfl rfl).trans ?_; refine (vbnd_0 e).trans ?_)); (first | (refine (veq k2).trans ?_) | (refine (vF_g rfl rfl).trans ?_; refine (vF_g rfl rfl).trans ?_; refine (veq k2).trans ?_) | (refine (vF_g rfl rfl).trans ?_; refine (veq k2).trans ?_)); (first | (refine (vbnd_1 m).trans ?_) | (refine (vF_g rfl rfl).trans ?_; refine (vF_g rfl rfl).trans ?_; refine (vbnd_1 m).trans ?_) | (refine (vF_g rfl rfl).trans ?_; refine (vbnd_1 m).trans ?_)); (first | (refine (vbnd_1 v_goesPast).trans ?_) | (refine (vF_g rfl rfl).trans ?_; refine (vF_g rfl rfl).trans ?_; refine (vbnd_1 v_goesPast).trans ?_) | (refine (vF_g rfl rfl).trans ?_; refine (vbnd_1 v_goesPast).trans ?_)); (first | (refine (vne (x := vup (flR 3 (rkv f T p)) 452 17 ((flR 3 (rkv f T p) 452 18 + flR 3 (rkv f T p) 452 19) % 4294967296) 452 20) (y := 0) (by rw [vup_ne (Or.inr (by decide)), flR_20]; decide) (by decide) (by rw [vup_ne (Or.inr (by decide)), flR_20]; decide)).trans ?_) | (refine (vF_g rfl rfl).trans ?_; refine (vF_g rfl rfl).trans ?_; refine (vne (x := vup (flR 3 (rkv f T p)) 452 17 ((flR 3 (rkv f T p) 452 18 + flR 3 (rkv f T p) 452 19) % 4294967296) 452 20) (y := 0) (by rw [vup_ne (Or.inr (by decide)), flR_20]; decide) (by decide) (by rw [vup_ne (Or.inr (by decide)), flR_20]; decide)).trans ?_) | (refine (vF_g rfl rfl).trans ?_; refine (vne (x := vup (flR 3 (rkv f T p)) 452 17 ((flR 3 (rkv f T p) 452 18 + flR 3 (rkv f T p) 452 19) % 4294967296) 452 20) (y := 0) (by rw [vup_ne (Or.inr (by decide)), flR_20]; decide) (by decide) (by rw [vup_ne (Or.inr (by decide)), flR_20]; decide)).trans ?_)); (first | (exact rfl) | (refine (vF_g rfl rfl).trans ?_; refine (vF_g rfl rfl).trans ?_; exact rfl) | (refine (vF_g rfl rfl).trans ?_; refine (vF_g rfl rfl).trans ?_; refine (vF_g rfl rfl).trans ?_; exact rfl) | (refine (vF_g rfl rfl).trans ?_; exact rfl))), err_up (err_fl rkv_18 (by decide) (by decide)) (Or.inr (by decide)), f9_up (f9_fl f9_r)⟩
  · have e := v_thingV (D := D) h k
    have m : vM MT0 (D + 3) 230 [vR 452, vI 1, vI 3] (rkv f T p) = some ((1, 0), vW 3, rkv f T p) := by
      rw [v_must (Or.inr rfl) (by rw [e20]; decide), if_neg (fun w => by cases w.1)]
    have hz := tZ_E k.1
    have z : vM MT0 (D + 3) 232 [vR 452] (rkv f T p) = some ((1, 0), vW 3, vup (rkv f T p) 452 17 (tE T p)) := by
      rw [v_goesPast, rkv_18, rkv_19, hz, Nat.mod_eq_of_lt (by omega)]
    exact ⟨_, vM_go rfl rfl rfl rfl fun F hF => (by (first | (refine (vbnd_0 (w1 k)).trans ?_) | (refine (vF_g rfl rfl).trans ?_; refine (vF_g rfl rfl).trans ?_; refine (vbnd_0 (w1 k)).trans ?_) | (refine (vF_g rfl rfl).trans ?_; refine (vbnd_0 (w1 k)).trans ?_)); (first | (refine (vgt (x := 1) (y := 0) (by decide) (by decide)).trans ?_) | (refine (vF_g rfl rfl).trans ?_; refine (vF_g rfl rfl).trans ?_; refine (vgt (x := 1) (y := 0) (by decide) (by decide)).trans ?_) | (refine (vF_g rfl rfl).trans ?_; refine (vgt (x := 1) (y := 0) (by decide) (by decide)).trans ?_)); (first | (refine (vbnd_0 e).trans ?_) | (refine (vF_g rfl rfl).trans ?_; refine (vF_g rfl rfl).trans ?_; refine (vbnd_0 e).trans ?_) | (refine (vF_g rfl rfl).trans ?_; refine (vbnd_0 e).trans ?_)); (first | (refine (vne hl (by decide) k2).trans ?_) | (refine (vF_g rfl rfl).trans ?_; refine (vF_g rfl rfl).trans ?_; refine (vne hl (by decide) k2).trans ?_) | (refine (vF_g rfl rfl).trans ?_; refine (vne hl (by decide) k2).trans ?_)); (first | (refine (vbnd_1 m).trans ?_) | (refine (vF_g rfl rfl).trans ?_; refine (vF_g rfl rfl).trans ?_; refine (vbnd_1 m).trans ?_) | (refine (vF_g rfl rfl).trans ?_; refine (vbnd_1 m).trans ?_)); (first | (refine (vbnd_1 z).trans ?_) | (refine (vF_g rfl rfl).trans ?_; refine (vF_g rfl rfl).trans ?_; refine (vbnd_1 z).trans ?_) | (refine (vF_g rfl rfl).trans ?_; refine (vbnd_1 z).trans ?_)); (first | (refine (veq ((vup_ne (Or.inr (by decide))).trans e20)).trans ?_) | (refine (vF_g rfl rfl).trans ?_; refine (vF_g rfl rfl).trans ?_; refine (veq ((vup_ne (Or.inr (by decide))).trans e20)).trans ?_) | (refine (vF_g rfl rfl).trans ?_; refine (veq ((vup_ne (Or.inr (by decide))).trans e20)).trans ?_)); (first | (exact rfl) | (refine (vF_g rfl rfl).trans ?_; refine (vF_g rfl rfl).trans ?_; exact rfl) | (refine (vF_g rfl rfl).trans ?_; refine (vF_g rfl rfl).trans ?_; refine (vF_g rfl rfl).trans ?_; exact rfl) | (refine (vF_g rfl rfl).trans ?_; exact rfl))), rs_past hr hE.2, f9_up f9_r⟩
theorem rkv_i {n c d p : Nat} {T : Nat → Nat} {E V : Nat → Nat → Nat} {f : Vw} (h : RS n T E V c d p f) : rkv (rkv f T p) T (tS T p) = rkv f T p := by
  have e := tS_i h.tx.1 h.tx.2.2.2.2 h.le
  have ez := tZ_i (T := T) e
  have e1 : vup (rkv f T p) 452 17 (tS T p) = rkv f T p := vup_id rkv_17
  have e2 : vup (rkv f T p) 452 18 (tS T p) = rkv f T p := vup_id rkv_18
  have e3 : vup (rkv f T p) 452 19 (tZ T p) = rkv f T p := vup_id rkv_19
  show vup (vup (vup (rkv f T p) 452 17 (tS T (tS T p))) 452 18 (tS T (tS T p))) 452 19 (tZ T (tS T p)) = rkv f T p
  rw [e, ez, e1, e2, e3]
theorem r_sees {D w : Nat} {n c d p : Nat} {T : Nat → Nat} {E V : Nat → Nat → Nat} {f : Vw} (h : RS n T E V c d p f) (h1 : 20 ≤ w) (h2 : w ≤ 26) : (wOKc T w p → vM MT0 (D + 3) 231 [vR 452, vW w] f = some ((0, 0), vI 1, rkv f T p)) ∧ (¬ wOKc T w p → vM MT0 (D + 3) 231 [vR 452, vW w] f = some ((0, 0), vI 0, rkv f T p)) := by
  have e := v_sees (D := D) (w := w) h1 (by omega) h.tx h.at_ h.le h.er.1
  have hl : 1 ≤ (wrd w).length := by
    rcases (show w = 20 ∨ w = 21 ∨ w = 22 ∨ w = 23 ∨ w = 24 ∨ w = 25 ∨ w = 26 by omega) with rfl | rfl | rfl | rfl | rfl | rfl | rfl <;> decide +kernel
  have k := wOK_c (T := T) (w := w) (p := p) hl
  refine ⟨fun q => ?_, fun q => ?_⟩
  · rw [e, if_pos (k.mp q)]
  · rw [e, if_neg (fun x => q (k.mpr x))]
theorem oVb_i {T : Nat → Nat} {p q : Nat} (h : tS T p = tS T q) : ∀ m w, oVb T p m w = oVb T q m w := by
  intro m
  induction m with
  | zero => intro w; rfl
  | succ m ih =>
    intro w
    by_cases k : wOKc T w p
    · rw [oVb_y k, oVb_y ((w_i h).mp k)]
    · rw [oVb_n k, oVb_n (fun x => k ((w_i h).mpr x)), ih]
theorem v_other {D : Nat} {n c d p : Nat} {T : Nat → Nat} {E V : Nat → Nat → Nat} {f : Vw} (h : RS n T E V c d p f) : vM MT0 (D + 4) 253 [vR 452] f = some ((0, 0), vI (oVb T p 4 23), rkv f T p) := by
  have h1 := rs_rkv h
  have ei := rkv_i h
  have es := tS_i h.tx.1 h.tx.2.2.2.2 h.le
  obtain ⟨y23, n23⟩ := r_sees (D := D) (w := 23) h (by decide) (by decide)
  obtain ⟨y24, n24⟩ := r_sees (D := D) (w := 24) h1 (by decide) (by decide)
  rw [ei] at y24 n24
  obtain ⟨y25, n25⟩ := r_sees (D := D) (w := 25) h1 (by decide) (by decide)
  rw [ei] at y25 n25
  obtain ⟨y26, n26⟩ := r_sees (D := D) (w := 26) h1 (by decide) (by decide)
  rw [ei] at y26 n26
  by_cases h23 : wOKc T 23 p
  · rw [oVb_y h23]
    refine vM_go rfl rfl rfl rfl fun F hF => ?_
    (first | (refine (vbnd_0 (y23 h23)).trans ?_) | (refine (vF_g rfl rfl).trans ?_; refine (vF_g rfl rfl).trans ?_; refine (vbnd_0 (y23 h23)).trans ?_) | (refine (vF_g rfl rfl).trans ?_; refine (vbnd_0 (y23 h23)).trans ?_))
    (first | (refine (vgt (x := 1) (y := 0) (by decide) (by decide)).trans ?_) | (refine (vF_g rfl rfl).trans ?_; refine (vF_g rfl rfl).trans ?_; refine (vgt (x := 1) (y := 0) (by decide) (by decide)).trans ?_) | (refine (vF_g rfl rfl).trans ?_; refine (vgt (x := 1) (y := 0) (by decide) (by decide)).trans ?_))
    (first | (exact rfl) | (refine (vF_g rfl rfl).trans ?_; refine (vF_g rfl rfl).trans ?_; exact rfl) | (refine (vF_g rfl rfl).trans ?_; refine (vF_g rfl rfl).trans ?_; refine (vF_g rfl rfl).trans ?_; exact rfl) | (refine (vF_g rfl rfl).trans ?_; exact rfl))
  · skip
    by_cases h24 : wOKc T 24 p
    · rw [oVb_n h23, oVb_y h24]
      refine vM_go rfl rfl rfl rfl fun F hF => ?_
      (first | (refine (vbnd_0 (n23 h23)).trans ?_) | (refine (vF_g rfl rfl).trans ?_; refine (vF_g rfl rfl).trans ?_; refine (vbnd_0 (n23 h23)).trans ?_) | (refine (vF_g rfl rfl).trans ?_; refine (vbnd_0 (n23 h23)).trans ?_))
      (first | (refine (veq (x := 0) (y := 0) rfl).trans ?_) | (refine (vF_g rfl rfl).trans ?_; refine (vF_g rfl rfl).trans ?_; refine (veq (x := 0) (y := 0) rfl).trans ?_) | (refine (vF_g rfl rfl).trans ?_; refine (veq (x := 0) (y := 0) rfl).trans ?_))
      (first | (refine (vbnd_0 (y24 ((w_i es).mpr h24))).trans ?_) | (refine (vF_g rfl rfl).trans ?_; refine (vF_g rfl rfl).trans ?_; refine (vbnd_0 (y24 ((w_i es).mpr h24))).trans ?_) | (refine (vF_g rfl rfl).trans ?_; refine (vbnd_0 (y24 ((w_i es).mpr h24))).trans ?_))
      (first | (refine (vgt (x := 1) (y := 0) (by decide) (by decide)).trans ?_) | (refine (vF_g rfl rfl).trans ?_; refine (vF_g rfl rfl).trans ?_; refine (vgt (x := 1) (y := 0) (by decide) (by decide)).trans ?_) | (refine (vF_g rfl rfl).trans ?_; refine (vgt (x := 1) (y := 0) (by decide) (by decide)).trans ?_))
      (first | (exact rfl) | (refine (vF_g rfl rfl).trans ?_; refine (vF_g rfl rfl).trans ?_; exact rfl) | (refine (vF_g rfl rfl).trans ?_; refine (vF_g rfl rfl).trans ?_; refine (vF_g rfl rfl).trans ?_; exact rfl) | (refine (vF_g rfl rfl).trans ?_; exact rfl))
    · skip
      by_cases h25 : wOKc T 25 p
      · rw [oVb_n h23, oVb_n h24, oVb_y h25]
        refine vM_go rfl rfl rfl rfl fun F hF => ?_
        (first | (refine (vbnd_0 (n23 h23)).trans ?_) | (refine (vF_g rfl rfl).trans ?_; refine (vF_g rfl rfl).trans ?_; refine (vbnd_0 (n23 h23)).trans ?_) | (refine (vF_g rfl rfl).trans ?_; refine (vbnd_0 (n23 h23)).trans ?_))
        (first | (refine (veq (x := 0) (y := 0) rfl).trans ?_) | (refine (vF_g rfl rfl).trans ?_; refine (vF_g rfl rfl).trans ?_; refine (veq (x := 0) (y := 0) rfl).trans ?_) | (refine (vF_g rfl rfl).trans ?_; refine (veq (x := 0) (y := 0) rfl).trans ?_))
        (first | (refine (vbnd_0 (n24 (fun x => h24 ((w_i es).mp x)))).trans ?_) | (refine (vF_g rfl rfl).trans ?_; refine (vF_g rfl rfl).trans ?_; refine (vbnd_0 (n24 (fun x => h24 ((w_i es).mp x)))).trans ?_) | (refine (vF_g rfl rfl).trans ?_; refine (vbnd_0 (n24 (fun x => h24 ((w_i es).mp x)))).trans ?_))
        (first | (refine (veq (x := 0) (y := 0) rfl).trans ?_) | (refine (vF_g rfl rfl).trans ?_; refine (vF_g rfl rfl).trans ?_; refine (veq (x := 0) (y := 0) rfl).trans ?_) | (refine (vF_g rfl rfl).trans ?_; refine (veq (x := 0) (y := 0) rfl).trans ?_))
        (first | (refine (vbnd_0 (y25 ((w_i es).mpr h25))).trans ?_) | (refine (vF_g rfl rfl).trans ?_; refine (vF_g rfl rfl).trans ?_; refine (vbnd_0 (y25 ((w_i es).mpr h25))).trans ?_) | (refine (vF_g rfl rfl).trans ?_; refine (vbnd_0 (y25 ((w_i es).mpr h25))).trans ?_))
        (first | (refine (vgt (x := 1) (y := 0) (by decide) (by decide)).trans ?_) | (refine (vF_g rfl rfl).trans ?_; refine (vF_g rfl rfl).trans ?_; refine (vgt (x := 1) (y := 0) (by decide) (by decide)).trans ?_) | (refine (vF_g rfl rfl).trans ?_; refine (vgt (x := 1) (y := 0) (by decide) (by decide)).trans ?_))
        (first | (exact rfl) | (refine (vF_g rfl rfl).trans ?_; refine (vF_g rfl rfl).trans ?_; exact rfl) | (refine (vF_g rfl rfl).trans ?_; refine (vF_g rfl rfl).trans ?_; refine (vF_g rfl rfl).trans ?_; exact rfl) | (refine (vF_g rfl rfl).trans ?_; exact rfl))
      · skip
        by_cases h26 : wOKc T 26 p
        · rw [oVb_n h23, oVb_n h24, oVb_n h25, oVb_y h26]
          refine vM_go rfl rfl rfl rfl fun F hF => ?_
          (first | (refine (vbnd_0 (n23 h23)).trans ?_) | (refine (vF_g rfl rfl).trans ?_; refine (vF_g rfl rfl).trans ?_; refine (vbnd_0 (n23 h23)).trans ?_) | (refine (vF_g rfl rfl).trans ?_; refine (vbnd_0 (n23 h23)).trans ?_))
          (first | (refine (veq (x := 0) (y := 0) rfl).trans ?_) | (refine (vF_g rfl rfl).trans ?_; refine (vF_g rfl rfl).trans ?_; refine (veq (x := 0) (y := 0) rfl).trans ?_) | (refine (vF_g rfl rfl).trans ?_; refine (veq (x := 0) (y := 0) rfl).trans ?_))
          (first | (refine (vbnd_0 (n24 (fun x => h24 ((w_i es).mp x)))).trans ?_) | (refine (vF_g rfl rfl).trans ?_; refine (vF_g rfl rfl).trans ?_; refine (vbnd_0 (n24 (fun x => h24 ((w_i es).mp x)))).trans ?_) | (refine (vF_g rfl rfl).trans ?_; refine (vbnd_0 (n24 (fun x => h24 ((w_i es).mp x)))).trans ?_))
          (first | (refine (veq (x := 0) (y := 0) rfl).trans ?_) | (refine (vF_g rfl rfl).trans ?_; refine (vF_g rfl rfl).trans ?_; refine (veq (x := 0) (y := 0) rfl).trans ?_) | (refine (vF_g rfl rfl).trans ?_; refine (veq (x := 0) (y := 0) rfl).trans ?_))
          (first | (refine (vbnd_0 (n25 (fun x => h25 ((w_i es).mp x)))).trans ?_) | (refine (vF_g rfl rfl).trans ?_; refine (vF_g rfl rfl).trans ?_; refine (vbnd_0 (n25 (fun x => h25 ((w_i es).mp x)))).trans ?_) | (refine (vF_g rfl rfl).trans ?_; refine (vbnd_0 (n25 (fun x => h25 ((w_i es).mp x)))).trans ?_))
          (first | (refine (veq (x := 0) (y := 0) rfl).trans ?_) | (refine (vF_g rfl rfl).trans ?_; refine (vF_g rfl rfl).trans ?_; refine (veq (x := 0) (y := 0) rfl).trans ?_) | (refine (vF_g rfl rfl).trans ?_; refine (veq (x := 0) (y := 0) rfl).trans ?_))
          (first | (refine (vbnd_0 (y26 ((w_i es).mpr h26))).trans ?_) | (refine (vF_g rfl rfl).trans ?_; refine (vF_g rfl rfl).trans ?_; refine (vbnd_0 (y26 ((w_i es).mpr h26))).trans ?_) | (refine (vF_g rfl rfl).trans ?_; refine (vbnd_0 (y26 ((w_i es).mpr h26))).trans ?_))
          (first | (refine (vgt (x := 1) (y := 0) (by decide) (by decide)).trans ?_) | (refine (vF_g rfl rfl).trans ?_; refine (vF_g rfl rfl).trans ?_; refine (vgt (x := 1) (y := 0) (by decide) (by decide)).trans ?_) | (refine (vF_g rfl rfl).trans ?_; refine (vgt (x := 1) (y := 0) (by decide) (by decide)).trans ?_))
          (first | (exact rfl) | (refine (vF_g rfl rfl).trans ?_; refine (vF_g rfl rfl).trans ?_; exact rfl) | (refine (vF_g rfl rfl).trans ?_; refine (vF_g rfl rfl).trans ?_; refine (vF_g rfl rfl).trans ?_; exact rfl) | (refine (vF_g rfl rfl).trans ?_; exact rfl))
        · rw [oVb_n h23, oVb_n h24, oVb_n h25, oVb_n h26, show oVb T p 0 27 = 4294967295 from rfl]
          refine vM_go rfl rfl rfl rfl fun F hF => ?_
          (first | (refine (vbnd_0 (n23 h23)).trans ?_) | (refine (vF_g rfl rfl).trans ?_; refine (vF_g rfl rfl).trans ?_; refine (vbnd_0 (n23 h23)).trans ?_) | (refine (vF_g rfl rfl).trans ?_; refine (vbnd_0 (n23 h23)).trans ?_))
          (first | (refine (veq (x := 0) (y := 0) rfl).trans ?_) | (refine (vF_g rfl rfl).trans ?_; refine (vF_g rfl rfl).trans ?_; refine (veq (x := 0) (y := 0) rfl).trans ?_) | (refine (vF_g rfl rfl).trans ?_; refine (veq (x := 0) (y := 0) rfl).trans ?_))
          (first | (refine (vbnd_0 (n24 (fun x => h24 ((w_i es).mp x)))).trans ?_) | (refine (vF_g rfl rfl).trans ?_; refine (vF_g rfl rfl).trans ?_; refine (vbnd_0 (n24 (fun x => h24 ((w_i es).mp x)))).trans ?_) | (refine (vF_g rfl rfl).trans ?_; refine (vbnd_0 (n24 (fun x => h24 ((w_i es).mp x)))).trans ?_))
          (first | (refine (veq (x := 0) (y := 0) rfl).trans ?_) | (refine (vF_g rfl rfl).trans ?_; refine (vF_g rfl rfl).trans ?_; refine (veq (x := 0) (y := 0) rfl).trans ?_) | (refine (vF_g rfl rfl).trans ?_; refine (veq (x := 0) (y := 0) rfl).trans ?_))
          (first | (refine (vbnd_0 (n25 (fun x => h25 ((w_i es).mp x)))).trans ?_) | (refine (vF_g rfl rfl).trans ?_; refine (vF_g rfl rfl).trans ?_; refine (vbnd_0 (n25 (fun x => h25 ((w_i es).mp x)))).trans ?_) | (refine (vF_g rfl rfl).trans ?_; refine (vbnd_0 (n25 (fun x => h25 ((w_i es).mp x)))).trans ?_))
          (first | (refine (veq (x := 0) (y := 0) rfl).trans ?_) | (refine (vF_g rfl rfl).trans ?_; refine (vF_g rfl rfl).trans ?_; refine (veq (x := 0) (y := 0) rfl).trans ?_) | (refine (vF_g rfl rfl).trans ?_; refine (veq (x := 0) (y := 0) rfl).trans ?_))
          (first | (refine (vbnd_0 (n26 (fun x => h26 ((w_i es).mp x)))).trans ?_) | (refine (vF_g rfl rfl).trans ?_; refine (vF_g rfl rfl).trans ?_; refine (vbnd_0 (n26 (fun x => h26 ((w_i es).mp x)))).trans ?_) | (refine (vF_g rfl rfl).trans ?_; refine (vbnd_0 (n26 (fun x => h26 ((w_i es).mp x)))).trans ?_))
          (first | (refine (veq (x := 0) (y := 0) rfl).trans ?_) | (refine (vF_g rfl rfl).trans ?_; refine (vF_g rfl rfl).trans ?_; refine (veq (x := 0) (y := 0) rfl).trans ?_) | (refine (vF_g rfl rfl).trans ?_; refine (veq (x := 0) (y := 0) rfl).trans ?_))
          (first | (exact rfl) | (refine (vF_g rfl rfl).trans ?_; refine (vF_g rfl rfl).trans ?_; exact rfl) | (refine (vF_g rfl rfl).trans ?_; refine (vF_g rfl rfl).trans ?_; refine (vF_g rfl rfl).trans ?_; exact rfl) | (refine (vF_g rfl rfl).trans ?_; exact rfl))
theorem v_here {D : Nat} {n c d p : Nat} {T : Nat → Nat} {E V : Nat → Nat → Nat} {f : Vw} (h : RS n T E V c d p f) : vM MT0 (D + 5) 254 [vR 452] f = some ((0, 0), vI (oVb T p 7 20), rkv f T p) := by
  have h1 := rs_rkv h
  have ei := rkv_i h
  have es := tS_i h.tx.1 h.tx.2.2.2.2 h.le
  obtain ⟨y20, n20⟩ := r_sees (D := D + 1) (w := 20) h (by decide) (by decide)
  obtain ⟨y21, n21⟩ := r_sees (D := D + 1) (w := 21) h1 (by decide) (by decide)
  rw [ei] at y21 n21
  obtain ⟨y22, n22⟩ := r_sees (D := D + 1) (w := 22) h1 (by decide) (by decide)
  rw [ei] at y22 n22
  by_cases h20 : wOKc T 20 p
  · rw [oVb_y h20]
    refine vM_go rfl rfl rfl rfl fun F hF => ?_
    (first | (refine (vbnd_0 (y20 h20)).trans ?_) | (refine (vF_g rfl rfl).trans ?_; refine (vF_g rfl rfl).trans ?_; refine (vbnd_0 (y20 h20)).trans ?_) | (refine (vF_g rfl rfl).trans ?_; refine (vbnd_0 (y20 h20)).trans ?_))
    (first | (refine (vgt (x := 1) (y := 0) (by decide) (by decide)).trans ?_) | (refine (vF_g rfl rfl).trans ?_; refine (vF_g rfl rfl).trans ?_; refine (vgt (x := 1) (y := 0) (by decide) (by decide)).trans ?_) | (refine (vF_g rfl rfl).trans ?_; refine (vgt (x := 1) (y := 0) (by decide) (by decide)).trans ?_))
    (first | (exact rfl) | (refine (vF_g rfl rfl).trans ?_; refine (vF_g rfl rfl).trans ?_; exact rfl) | (refine (vF_g rfl rfl).trans ?_; refine (vF_g rfl rfl).trans ?_; refine (vF_g rfl rfl).trans ?_; exact rfl) | (refine (vF_g rfl rfl).trans ?_; exact rfl))
  · skip
    by_cases h21 : wOKc T 21 p
    · rw [oVb_n h20, oVb_y h21]
      refine vM_go rfl rfl rfl rfl fun F hF => ?_
      (first | (refine (vbnd_0 (n20 h20)).trans ?_) | (refine (vF_g rfl rfl).trans ?_; refine (vF_g rfl rfl).trans ?_; refine (vbnd_0 (n20 h20)).trans ?_) | (refine (vF_g rfl rfl).trans ?_; refine (vbnd_0 (n20 h20)).trans ?_))
      (first | (refine (veq (x := 0) (y := 0) rfl).trans ?_) | (refine (vF_g rfl rfl).trans ?_; refine (vF_g rfl rfl).trans ?_; refine (veq (x := 0) (y := 0) rfl).trans ?_) | (refine (vF_g rfl rfl).trans ?_; refine (veq (x := 0) (y := 0) rfl).trans ?_))
      (first | (refine (vbnd_0 (y21 ((w_i es).mpr h21))).trans ?_) | (refine (vF_g rfl rfl).trans ?_; refine (vF_g rfl rfl).trans ?_; refine (vbnd_0 (y21 ((w_i es).mpr h21))).trans ?_) | (refine (vF_g rfl rfl).trans ?_; refine (vbnd_0 (y21 ((w_i es).mpr h21))).trans ?_))
      (first | (refine (vgt (x := 1) (y := 0) (by decide) (by decide)).trans ?_) | (refine (vF_g rfl rfl).trans ?_; refine (vF_g rfl rfl).trans ?_; refine (vgt (x := 1) (y := 0) (by decide) (by decide)).trans ?_) | (refine (vF_g rfl rfl).trans ?_; refine (vgt (x := 1) (y := 0) (by decide) (by decide)).trans ?_))
      (first | (exact rfl) | (refine (vF_g rfl rfl).trans ?_; refine (vF_g rfl rfl).trans ?_; exact rfl) | (refine (vF_g rfl rfl).trans ?_; refine (vF_g rfl rfl).trans ?_; refine (vF_g rfl rfl).trans ?_; exact rfl) | (refine (vF_g rfl rfl).trans ?_; exact rfl))
    · skip
      by_cases h22 : wOKc T 22 p
      · rw [oVb_n h20, oVb_n h21, oVb_y h22]
        refine vM_go rfl rfl rfl rfl fun F hF => ?_
        (first | (refine (vbnd_0 (n20 h20)).trans ?_) | (refine (vF_g rfl rfl).trans ?_; refine (vF_g rfl rfl).trans ?_; refine (vbnd_0 (n20 h20)).trans ?_) | (refine (vF_g rfl rfl).trans ?_; refine (vbnd_0 (n20 h20)).trans ?_))
        (first | (refine (veq (x := 0) (y := 0) rfl).trans ?_) | (refine (vF_g rfl rfl).trans ?_; refine (vF_g rfl rfl).trans ?_; refine (veq (x := 0) (y := 0) rfl).trans ?_) | (refine (vF_g rfl rfl).trans ?_; refine (veq (x := 0) (y := 0) rfl).trans ?_))
        (first | (refine (vbnd_0 (n21 (fun x => h21 ((w_i es).mp x)))).trans ?_) | (refine (vF_g rfl rfl).trans ?_; refine (vF_g rfl rfl).trans ?_; refine (vbnd_0 (n21 (fun x => h21 ((w_i es).mp x)))).trans ?_) | (refine (vF_g rfl rfl).trans ?_; refine (vbnd_0 (n21 (fun x => h21 ((w_i es).mp x)))).trans ?_))
        (first | (refine (veq (x := 0) (y := 0) rfl).trans ?_) | (refine (vF_g rfl rfl).trans ?_; refine (vF_g rfl rfl).trans ?_; refine (veq (x := 0) (y := 0) rfl).trans ?_) | (refine (vF_g rfl rfl).trans ?_; refine (veq (x := 0) (y := 0) rfl).trans ?_))
        (first | (refine (vbnd_0 (y22 ((w_i es).mpr h22))).trans ?_) | (refine (vF_g rfl rfl).trans ?_; refine (vF_g rfl rfl).trans ?_; refine (vbnd_0 (y22 ((w_i es).mpr h22))).trans ?_) | (refine (vF_g rfl rfl).trans ?_; refine (vbnd_0 (y22 ((w_i es).mpr h22))).trans ?_))
        (first | (refine (vgt (x := 1) (y := 0) (by decide) (by decide)).trans ?_) | (refine (vF_g rfl rfl).trans ?_; refine (vF_g rfl rfl).trans ?_; refine (vgt (x := 1) (y := 0) (by decide) (by decide)).trans ?_) | (refine (vF_g rfl rfl).trans ?_; refine (vgt (x := 1) (y := 0) (by decide) (by decide)).trans ?_))
        (first | (exact rfl) | (refine (vF_g rfl rfl).trans ?_; refine (vF_g rfl rfl).trans ?_; exact rfl) | (refine (vF_g rfl rfl).trans ?_; refine (vF_g rfl rfl).trans ?_; refine (vF_g rfl rfl).trans ?_; exact rfl) | (refine (vF_g rfl rfl).trans ?_; exact rfl))
      · have eo := v_other (D := D) h1
        rw [ei, oVb_i es] at eo
        rw [oVb_n h20, oVb_n h21, oVb_n h22]
        refine vM_go rfl rfl rfl rfl fun F hF => ?_
        (first | (refine (vbnd_0 (n20 h20)).trans ?_) | (refine (vF_g rfl rfl).trans ?_; refine (vF_g rfl rfl).trans ?_; refine (vbnd_0 (n20 h20)).trans ?_) | (refine (vF_g rfl rfl).trans ?_; refine (vbnd_0 (n20 h20)).trans ?_))
        (first | (refine (veq (x := 0) (y := 0) rfl).trans ?_) | (refine (vF_g rfl rfl).trans ?_; refine (vF_g rfl rfl).trans ?_; refine (veq (x := 0) (y := 0) rfl).trans ?_) | (refine (vF_g rfl rfl).trans ?_; refine (veq (x := 0) (y := 0) rfl).trans ?_))
        (first | (refine (vbnd_0 (n21 (fun x => h21 ((w_i es).mp x)))).trans ?_) | (refine (vF_g rfl rfl).trans ?_; refine (vF_g rfl rfl).trans ?_; refine (vbnd_0 (n21 (fun x => h21 ((w_i es).mp x)))).trans ?_) | (refine (vF_g rfl rfl).trans ?_; refine (vbnd_0 (n21 (fun x => h21 ((w_i es).mp x)))).trans ?_))
        (first | (refine (veq (x := 0) (y := 0) rfl).trans ?_) | (refine (vF_g rfl rfl).trans ?_; refine (vF_g rfl rfl).trans ?_; refine (veq (x := 0) (y := 0) rfl).trans ?_) | (refine (vF_g rfl rfl).trans ?_; refine (veq (x := 0) (y := 0) rfl).trans ?_))
        (first | (refine (vbnd_0 (n22 (fun x => h22 ((w_i es).mp x)))).trans ?_) | (refine (vF_g rfl rfl).trans ?_; refine (vF_g rfl rfl).trans ?_; refine (vbnd_0 (n22 (fun x => h22 ((w_i es).mp x)))).trans ?_) | (refine (vF_g rfl rfl).trans ?_; refine (vbnd_0 (n22 (fun x => h22 ((w_i es).mp x)))).trans ?_))
        (first | (refine (veq (x := 0) (y := 0) rfl).trans ?_) | (refine (vF_g rfl rfl).trans ?_; refine (vF_g rfl rfl).trans ?_; refine (veq (x := 0) (y := 0) rfl).trans ?_) | (refine (vF_g rfl rfl).trans ?_; refine (veq (x := 0) (y := 0) rfl).trans ?_))
        (first | (refine (vbnd_0 eo).trans ?_) | (refine (vF_g rfl rfl).trans ?_; refine (vF_g rfl rfl).trans ?_; refine (vbnd_0 eo).trans ?_) | (refine (vF_g rfl rfl).trans ?_; refine (vbnd_0 eo).trans ?_))
        (first | (exact rfl) | (refine (vF_g rfl rfl).trans ?_; refine (vF_g rfl rfl).trans ?_; exact rfl) | (refine (vF_g rfl rfl).trans ?_; refine (vF_g rfl rfl).trans ?_; refine (vF_g rfl rfl).trans ?_; exact rfl) | (refine (vF_g rfl rfl).trans ?_; exact rfl))
theorem rs_463 {i x : Nat} {n c d p : Nat} {T : Nat → Nat} {E V : Nat → Nat → Nat} {f : Vw} (h : RS n T E V c d p f) : RS n T E V c d p (vup f 463 i x) := rs_of h (vup_ne (Or.inl (by decide))) (fun _ => vup_ne (Or.inl (by decide))) ((vup_ne (Or.inl (by decide))).trans h.at_) h.le (vup_ne (Or.inl (by decide))) (vup_ne (Or.inl (by decide))) (vup_ne (Or.inl (by decide))) (vup_ne (Or.inl (by decide))) (fun y hy hy2 => vup_ne (Or.inl (by decide))) (fun y hy hy2 => vup_ne (Or.inl (by decide)))
theorem rs_25 {x : Nat} {n c d p : Nat} {T : Nat → Nat} {E V : Nat → Nat → Nat} {f : Vw} (h : RS n T E V c d p f) : RS n T E V c d p (vup f 452 25 x) := rs_of h (vup_ne (Or.inr (by decide))) (fun _ => vup_ne (Or.inl (by decide))) ((vup_ne (Or.inr (by decide))).trans h.at_) h.le (vup_ne (Or.inr (by decide))) (vup_ne (Or.inr (by decide))) (vup_ne (Or.inl (by decide))) (vup_ne (Or.inl (by decide))) (fun y hy hy2 => vup_ne (Or.inl (by decide))) (fun y hy hy2 => vup_ne (Or.inl (by decide)))
/-- of the reader's object all but its reader's numbers stands -/
def FT (f g : Vw) : Prop := ∀ b, b < 17 ∨ 21 < b → g 452 b = f 452 b
theorem ft_of {f g : Vw} (h : F9r f g) : FT f g := fun b w => h 452 b (Or.inr w)
theorem ft_463 {f g : Vw} {i x : Nat} (h : FT f g) : FT f (vup g 463 i x) := fun b w => (vup_ne (Or.inl (by decide))).trans (h b w)
theorem ft_tr {f g k : Vw} (h : FT f g) (h2 : FT g k) : FT f k := fun b w => (h2 b w).trans (h b w)
/-- what a command's two values are -/
def TVal (c d v x y : Nat) : Prop := (v = 0 ∧ 1 ≤ x ∧ x ≤ 60) ∨ v = 1 ∨ (v = 2 ∧ x < d ∧ y < c) ∨ ((v = 3 ∨ v = 6) ∧ x < c) ∨ (v = 4 ∧ x < d ∧ 1 ≤ y ∧ y ≤ 99) ∨ (v = 5 ∧ x < d ∧ 1 ≤ y ∧ y ≤ 999)
def TG (c d v to : Nat) (f g : Vw) : Prop := TVal c d v (g 463 to) (g 463 (to + 1)) ∧ (∀ j, j ≠ to → j ≠ to + 1 → g 463 j = f 463 j) ∧ ∀ a b, a ≠ 452 → a ≠ 463 → g a b = f a b
theorem tg_1 {c d v to a : Nat} {f g : Vw} (hf : F9r f g) (hv : ∀ y, TVal c d v a y) : TG c d v to f (vup g 463 to a) := by
  refine ⟨?_, fun j h1 _ => (vup_ne (Or.inr h1)).trans (hf 463 j (Or.inl (by decide))), fun a b h1 h2 => (vup_ne (Or.inl h2)).trans (hf a b (Or.inl h1))⟩
  rw [vup_eq]
  exact hv _
theorem tg_2 {c d v to a b : Nat} {f g k : Vw} (hf : F9r f g) (hk : F9r (vup g 463 to a) k) (hv : TVal c d v a b) : TG c d v to f (vup k 463 (to + 1) b) := by
  refine ⟨?_, fun j h1 h2 => (vup_ne (Or.inr h2)).trans ((hk 463 j (Or.inl (by decide))).trans ((vup_ne (Or.inr h1)).trans (hf 463 j (Or.inl (by decide))))), fun a b h1 h2 => (vup_ne (Or.inl h2)).trans ((hk a b (Or.inl h1)).trans ((vup_ne (Or.inl h2)).trans (hf a b (Or.inl h1))))⟩
  rw [vup_eq, vup_ne (Or.inr (show to ≠ to + 1 by omega)), hk 463 to (Or.inl (by decide)), vup_eq]
  exact hv
theorem nuC_v {T : Nat → Nat} {p lo hi : Nat} (h : nuC T p lo hi = 0) : lo ≤ tV T p ∧ tV T p ≤ hi := by
  unfold nuC at h
  by_cases k : tK T p = 2 ∧ tE T p - tS T p ≤ 4
  · rw [if_pos k] at h
    by_cases k2 : lo ≤ tV T p ∧ tV T p ≤ hi
    · exact k2
    · rw [if_neg k2] at h
      cases h
  · rw [if_neg k] at h
    cases h
theorem fidx_n {g : Nat → Nat} {x m : Nat} (h : fidx g x m 0 ≠ 4294967295) : fidx g x m 0 < m := by
  rcases fidx_lt (g := g) (x := x) m 0 with q | ⟨_, q, _⟩
  · exact absurd q h
  · omega
/-- one value told -/
theorem tell1 {D v to a y : Nat} {as : List AV} {f g : Vw} (hto : to < 90) (hv : (v = 0 ∧ y = 235 ∧ as = [vR 452, vI 1, vI 60]) ∨ ((v = 3 ∨ v = 6) ∧ y = 241 ∧ as = [vR 452, vI 0])) (e : vM MT0 (D + 4) y as f = some ((0, 0), vI a, g)) : vM MT0 (D + 5) 255 [vR 452, vI v, vI to] f = some ((1, 0), vW 3, vup g 463 to a) := by
  have fin : ∀ w, gd (Nat.ble (to + 1) 90) (some (((1, 0), vW 3, vup g 463 to a) : VR)) = w → w = some ((1, 0), vW 3, vup g 463 to a) := by
    intro w hw
    rw [← hw, Nat.ble_eq_true_of_le (show to + 1 ≤ 90 by omega)]
    (first | (exact rfl) | (refine (vF_g rfl rfl).trans ?_; refine (vF_g rfl rfl).trans ?_; exact rfl) | (refine (vF_g rfl rfl).trans ?_; refine (vF_g rfl rfl).trans ?_; refine (vF_g rfl rfl).trans ?_; exact rfl) | (refine (vF_g rfl rfl).trans ?_; exact rfl))
  rcases hv with ⟨rfl, rfl, rfl⟩ | ⟨rfl | rfl, rfl, rfl⟩
  · refine vM_go rfl rfl rfl rfl fun F hF => ?_
    (first | (refine (vbnd_0 e).trans ?_) | (refine (vF_g rfl rfl).trans ?_; refine (vF_g rfl rfl).trans ?_; refine (vbnd_0 e).trans ?_) | (refine (vF_g rfl rfl).trans ?_; refine (vbnd_0 e).trans ?_))
    exact fin _ rfl
  · refine vM_go rfl rfl rfl rfl fun F hF => ?_
    (first | (refine (vbnd_0 e).trans ?_) | (refine (vF_g rfl rfl).trans ?_; refine (vF_g rfl rfl).trans ?_; refine (vbnd_0 e).trans ?_) | (refine (vF_g rfl rfl).trans ?_; refine (vbnd_0 e).trans ?_))
    exact fin _ rfl
  · refine vM_go rfl rfl rfl rfl fun F hF => ?_
    (first | (refine (vbnd_0 e).trans ?_) | (refine (vF_g rfl rfl).trans ?_; refine (vF_g rfl rfl).trans ?_; refine (vbnd_0 e).trans ?_) | (refine (vF_g rfl rfl).trans ?_; refine (vbnd_0 e).trans ?_))
    exact fin _ rfl
/-- two values told -/
theorem tell2 {D v to a b y : Nat} {as : List AV} {f g k : Vw} (hto : to + 1 < 90) (hv : (v = 2 ∧ y = 241 ∧ as = [vR 452, vI 0]) ∨ (v = 4 ∧ y = 235 ∧ as = [vR 452, vI 1, vI 99]) ∨ (v = 5 ∧ y = 235 ∧ as = [vR 452, vI 1, vI 999])) (e : vM MT0 (D + 4) 241 [vR 452, vI 1] f = some ((0, 0), vI a, g)) (e2 : vM MT0 (D + 4) y as (vup g 463 to a) = some ((0, 0), vI b, k)) : vM MT0 (D + 5) 255 [vR 452, vI v, vI to] f = some ((1, 0), vW 3, vup k 463 (to + 1) b) := by
  have fin : ∀ w, gd (Nat.ble ((to + 1) % 4294967296 + 1) 90) (some (((1, 0), vW 3, vup k 463 ((to + 1) % 4294967296) b) : VR)) = w → w = some ((1, 0), vW 3, vup k 463 (to + 1) b) := by
    intro w hw
    rw [← hw, Nat.mod_eq_of_lt (show to + 1 < 4294967296 by omega), Nat.ble_eq_true_of_le (show to + 1 + 1 ≤ 90 by omega)]
    (first | (exact rfl) | (refine (vF_g rfl rfl).trans ?_; refine (vF_g rfl rfl).trans ?_; exact rfl) | (refine (vF_g rfl rfl).trans ?_; refine (vF_g rfl rfl).trans ?_; refine (vF_g rfl rfl).trans ?_; exact rfl) | (refine (vF_g rfl rfl).trans ?_; exact rfl))
  rcases hv with ⟨rfl, rfl, rfl⟩ | ⟨rfl, rfl, rfl⟩ | ⟨rfl, rfl, rfl⟩
  · refine vM_go rfl rfl rfl rfl fun F hF => ?_
    (first | (refine (vbnd_0 e).trans ?_) | (refine (vF_g rfl rfl).trans ?_; refine (vF_g rfl rfl).trans ?_; refine (vbnd_0 e).trans ?_) | (refine (vF_g rfl rfl).trans ?_; refine (vbnd_0 e).trans ?_))
    (first | (refine Eq.trans (b := gd (Nat.ble (to + 1) 90) (vB (vM MT0 (D + 4)) (vFn (vM MT0 (D + 4)) nb_X11_partsOf (F + 58)) ((5, 0, 0, 0, 0, 0, 0), []) [(5, 2, 0, 0, 0, 0, 0), (21, 11, 24, 0, 0, 0, 0), (5, 0, 2, 0, 0, 0, 0), (0, 1, 0, 0, 0, 0, 0), (9, 0, 0, 0, 0, 0, 0), (5, 2, 0, 0, 0, 0, 0), (0, 0, 0, 0, 0, 0, 0), (31, 14, 241, 2, 0, 0, 0), (24, 0, 0, 0, 0, 0, 0)] 0 [vR 452, vI 2, vI to] [] (vup g 463 to a))) rfl ?_) | (refine (vF_g rfl rfl).trans ?_; refine (vF_g rfl rfl).trans ?_; refine Eq.trans (b := gd (Nat.ble (to + 1) 90) (vB (vM MT0 (D + 4)) (vFn (vM MT0 (D + 4)) nb_X11_partsOf (F + 58)) ((5, 0, 0, 0, 0, 0, 0), []) [(5, 2, 0, 0, 0, 0, 0), (21, 11, 24, 0, 0, 0, 0), (5, 0, 2, 0, 0, 0, 0), (0, 1, 0, 0, 0, 0, 0), (9, 0, 0, 0, 0, 0, 0), (5, 2, 0, 0, 0, 0, 0), (0, 0, 0, 0, 0, 0, 0), (31, 14, 241, 2, 0, 0, 0), (24, 0, 0, 0, 0, 0, 0)] 0 [vR 452, vI 2, vI to] [] (vup g 463 to a))) rfl ?_) | (refine (vF_g rfl rfl).trans ?_; refine Eq.trans (b := gd (Nat.ble (to + 1) 90) (vB (vM MT0 (D + 4)) (vFn (vM MT0 (D + 4)) nb_X11_partsOf (F + 58)) ((5, 0, 0, 0, 0, 0, 0), []) [(5, 2, 0, 0, 0, 0, 0), (21, 11, 24, 0, 0, 0, 0), (5, 0, 2, 0, 0, 0, 0), (0, 1, 0, 0, 0, 0, 0), (9, 0, 0, 0, 0, 0, 0), (5, 2, 0, 0, 0, 0, 0), (0, 0, 0, 0, 0, 0, 0), (31, 14, 241, 2, 0, 0, 0), (24, 0, 0, 0, 0, 0, 0)] 0 [vR 452, vI 2, vI to] [] (vup g 463 to a))) rfl ?_))
    rw [Nat.ble_eq_true_of_le (show to + 1 ≤ 90 by omega)]
    (first | (refine (vbnd_0 e2).trans ?_) | (refine (vF_g rfl rfl).trans ?_; refine (vF_g rfl rfl).trans ?_; refine (vbnd_0 e2).trans ?_) | (refine (vF_g rfl rfl).trans ?_; refine (vbnd_0 e2).trans ?_))
    exact fin _ rfl
  · refine vM_go rfl rfl rfl rfl fun F hF => ?_
    (first | (refine (vbnd_0 e).trans ?_) | (refine (vF_g rfl rfl).trans ?_; refine (vF_g rfl rfl).trans ?_; refine (vbnd_0 e).trans ?_) | (refine (vF_g rfl rfl).trans ?_; refine (vbnd_0 e).trans ?_))
    (first | (refine Eq.trans (b := gd (Nat.ble (to + 1) 90) (vB (vM MT0 (D + 4)) (vFn (vM MT0 (D + 4)) nb_X11_partsOf (F + 58)) ((5, 0, 0, 0, 0, 0, 0), []) [(5, 2, 0, 0, 0, 0, 0), (21, 11, 24, 0, 0, 0, 0), (5, 0, 2, 0, 0, 0, 0), (0, 1, 0, 0, 0, 0, 0), (9, 0, 0, 0, 0, 0, 0), (5, 2, 0, 0, 0, 0, 0), (0, 1, 0, 0, 0, 0, 0), (0, 99, 0, 0, 0, 0, 0), (31, 14, 235, 3, 0, 0, 0), (24, 0, 0, 0, 0, 0, 0)] 0 [vR 452, vI 4, vI to] [] (vup g 463 to a))) rfl ?_) | (refine (vF_g rfl rfl).trans ?_; refine (vF_g rfl rfl).trans ?_; refine Eq.trans (b := gd (Nat.ble (to + 1) 90) (vB (vM MT0 (D + 4)) (vFn (vM MT0 (D + 4)) nb_X11_partsOf (F + 58)) ((5, 0, 0, 0, 0, 0, 0), []) [(5, 2, 0, 0, 0, 0, 0), (21, 11, 24, 0, 0, 0, 0), (5, 0, 2, 0, 0, 0, 0), (0, 1, 0, 0, 0, 0, 0), (9, 0, 0, 0, 0, 0, 0), (5, 2, 0, 0, 0, 0, 0), (0, 1, 0, 0, 0, 0, 0), (0, 99, 0, 0, 0, 0, 0), (31, 14, 235, 3, 0, 0, 0), (24, 0, 0, 0, 0, 0, 0)] 0 [vR 452, vI 4, vI to] [] (vup g 463 to a))) rfl ?_) | (refine (vF_g rfl rfl).trans ?_; refine Eq.trans (b := gd (Nat.ble (to + 1) 90) (vB (vM MT0 (D + 4)) (vFn (vM MT0 (D + 4)) nb_X11_partsOf (F + 58)) ((5, 0, 0, 0, 0, 0, 0), []) [(5, 2, 0, 0, 0, 0, 0), (21, 11, 24, 0, 0, 0, 0), (5, 0, 2, 0, 0, 0, 0), (0, 1, 0, 0, 0, 0, 0), (9, 0, 0, 0, 0, 0, 0), (5, 2, 0, 0, 0, 0, 0), (0, 1, 0, 0, 0, 0, 0), (0, 99, 0, 0, 0, 0, 0), (31, 14, 235, 3, 0, 0, 0), (24, 0, 0, 0, 0, 0, 0)] 0 [vR 452, vI 4, vI to] [] (vup g 463 to a))) rfl ?_))
    rw [Nat.ble_eq_true_of_le (show to + 1 ≤ 90 by omega)]
    (first | (refine (vbnd_0 e2).trans ?_) | (refine (vF_g rfl rfl).trans ?_; refine (vF_g rfl rfl).trans ?_; refine (vbnd_0 e2).trans ?_) | (refine (vF_g rfl rfl).trans ?_; refine (vbnd_0 e2).trans ?_))
    exact fin _ rfl
  · refine vM_go rfl rfl rfl rfl fun F hF => ?_
    (first | (refine (vbnd_0 e).trans ?_) | (refine (vF_g rfl rfl).trans ?_; refine (vF_g rfl rfl).trans ?_; refine (vbnd_0 e).trans ?_) | (refine (vF_g rfl rfl).trans ?_; refine (vbnd_0 e).trans ?_))
    (first | (refine Eq.trans (b := gd (Nat.ble (to + 1) 90) (vB (vM MT0 (D + 4)) (vFn (vM MT0 (D + 4)) nb_X11_partsOf (F + 58)) ((5, 0, 0, 0, 0, 0, 0), []) [(5, 2, 0, 0, 0, 0, 0), (21, 11, 24, 0, 0, 0, 0), (5, 0, 2, 0, 0, 0, 0), (0, 1, 0, 0, 0, 0, 0), (9, 0, 0, 0, 0, 0, 0), (5, 2, 0, 0, 0, 0, 0), (0, 1, 0, 0, 0, 0, 0), (0, 999, 0, 0, 0, 0, 0), (31, 14, 235, 3, 0, 0, 0), (24, 0, 0, 0, 0, 0, 0)] 0 [vR 452, vI 5, vI to] [] (vup g 463 to a))) rfl ?_) | (refine (vF_g rfl rfl).trans ?_; refine (vF_g rfl rfl).trans ?_; refine Eq.trans (b := gd (Nat.ble (to + 1) 90) (vB (vM MT0 (D + 4)) (vFn (vM MT0 (D + 4)) nb_X11_partsOf (F + 58)) ((5, 0, 0, 0, 0, 0, 0), []) [(5, 2, 0, 0, 0, 0, 0), (21, 11, 24, 0, 0, 0, 0), (5, 0, 2, 0, 0, 0, 0), (0, 1, 0, 0, 0, 0, 0), (9, 0, 0, 0, 0, 0, 0), (5, 2, 0, 0, 0, 0, 0), (0, 1, 0, 0, 0, 0, 0), (0, 999, 0, 0, 0, 0, 0), (31, 14, 235, 3, 0, 0, 0), (24, 0, 0, 0, 0, 0, 0)] 0 [vR 452, vI 5, vI to] [] (vup g 463 to a))) rfl ?_) | (refine (vF_g rfl rfl).trans ?_; refine Eq.trans (b := gd (Nat.ble (to + 1) 90) (vB (vM MT0 (D + 4)) (vFn (vM MT0 (D + 4)) nb_X11_partsOf (F + 58)) ((5, 0, 0, 0, 0, 0, 0), []) [(5, 2, 0, 0, 0, 0, 0), (21, 11, 24, 0, 0, 0, 0), (5, 0, 2, 0, 0, 0, 0), (0, 1, 0, 0, 0, 0, 0), (9, 0, 0, 0, 0, 0, 0), (5, 2, 0, 0, 0, 0, 0), (0, 1, 0, 0, 0, 0, 0), (0, 999, 0, 0, 0, 0, 0), (31, 14, 235, 3, 0, 0, 0), (24, 0, 0, 0, 0, 0, 0)] 0 [vR 452, vI 5, vI to] [] (vup g 463 to a))) rfl ?_))
    rw [Nat.ble_eq_true_of_le (show to + 1 ≤ 90 by omega)]
    (first | (refine (vbnd_0 e2).trans ?_) | (refine (vF_g rfl rfl).trans ?_; refine (vF_g rfl rfl).trans ?_; refine (vbnd_0 e2).trans ?_) | (refine (vF_g rfl rfl).trans ?_; refine (vbnd_0 e2).trans ?_))
    exact fin _ rfl
theorem r_parts {D v to : Nat} {n c d p : Nat} {T : Nat → Nat} {E V : Nat → Nat → Nat} {f : Vw} (h : RS n T E V c d p f) (hto : to + 1 < 90) (hv : v < 7) : ((oArg T (fun j => E j 0) c (fun j => V j 0) d v p fun p => (0, p)).1 = 0 → ∃ g, vM MT0 (D + 5) 255 [vR 452, vI v, vI to] f = some ((1, 0), vW 3, g) ∧ RS n T E V c d (oArg T (fun j => E j 0) c (fun j => V j 0) d v p fun p => (0, p)).2 g ∧ FT f g ∧ TG c d v to f g) ∧ ((oArg T (fun j => E j 0) c (fun j => V j 0) d v p fun p => (0, p)).1 ≠ 0 → ∃ g, vM MT0 (D + 5) 255 [vR 452, vI v, vI to] f = some ((1, 0), vW 3, g) ∧ ERR (oArg T (fun j => E j 0) c (fun j => V j 0) d v p fun p => (0, p)).1 (oArg T (fun j => E j 0) c (fun j => V j 0) d v p fun p => (0, p)).2 g ∧ FT f g) := by
  have up : ∀ {e q : Nat} {g : Vw} {i x : Nat}, ERR e q g → ERR e q (vup g 463 i x) := fun h => err_up h (Or.inl (by decide))
  have hto1 : to < 90 := by omega
  obtain ⟨a1, a2, a3⟩ := r_itE (D := D) h
  obtain ⟨b1, b2, b3⟩ := r_itV (D := D) h
  have echo : ∀ v9, v9 = 3 ∨ v9 = 6 → oArg T (fun j => E j 0) c (fun j => V j 0) d v9 p (fun p => (0, p)) = oIt T (fun j => E j 0) c p (fun p => (0, p)) → ((oArg T (fun j => E j 0) c (fun j => V j 0) d v9 p fun p => (0, p)).1 = 0 → ∃ g, vM MT0 (D + 5) 255 [vR 452, vI v9, vI to] f = some ((1, 0), vW 3, g) ∧ RS n T E V c d (oArg T (fun j => E j 0) c (fun j => V j 0) d v9 p fun p => (0, p)).2 g ∧ FT f g ∧ TG c d v9 to f g) ∧ ((oArg T (fun j => E j 0) c (fun j => V j 0) d v9 p fun p => (0, p)).1 ≠ 0 → ∃ g, vM MT0 (D + 5) 255 [vR 452, vI v9, vI to] f = some ((1, 0), vW 3, g) ∧ ERR (oArg T (fun j => E j 0) c (fun j => V j 0) d v9 p fun p => (0, p)).1 (oArg T (fun j => E j 0) c (fun j => V j 0) d v9 p fun p => (0, p)).2 g ∧ FT f g) := by
    intro v9 hv9 ea
    rw [ea]
    by_cases k1 : nOK T p
    rotate_left
    · obtain ⟨g, e, hg, hf⟩ := a1 k1
      rw [oIt_2 k1]
      exact ⟨fun w => absurd w n01, fun _ => ⟨_, tell1 (D := D) hto1 (Or.inr ⟨hv9, rfl, rfl⟩) e, up hg, ft_463 (ft_of hf)⟩⟩
    by_cases k2 : fidx (fun j => E j 0) (pkr (tN T p)) c 0 = 4294967295
    · obtain ⟨g, e, hg, hf⟩ := a2 k1 k2
      rw [oIt_1 k1 k2]
      exact ⟨fun w => absurd w n31, fun _ => ⟨_, tell1 (D := D) hto1 (Or.inr ⟨hv9, rfl, rfl⟩) e, up hg, ft_463 (ft_of hf)⟩⟩
    · obtain ⟨g, e, hg, hf⟩ := a3 k1 k2
      rw [oIt_0 k1 k2]
      exact ⟨fun _ => ⟨_, tell1 (D := D) hto1 (Or.inr ⟨hv9, rfl, rfl⟩) e, rs_463 hg, ft_463 (ft_of hf), tg_1 hf (fun y => Or.inr (Or.inr (Or.inr (Or.inl ⟨hv9, fidx_n k2⟩))))⟩, fun w => absurd rfl w⟩
  -- a valley, then one thing more
  have more : ∀ v9, v9 = 2 ∨ v9 = 4 ∨ v9 = 5 → ((oArg T (fun j => E j 0) c (fun j => V j 0) d v9 p fun p => (0, p)).1 = 0 → ∃ g, vM MT0 (D + 5) 255 [vR 452, vI v9, vI to] f = some ((1, 0), vW 3, g) ∧ RS n T E V c d (oArg T (fun j => E j 0) c (fun j => V j 0) d v9 p fun p => (0, p)).2 g ∧ FT f g ∧ TG c d v9 to f g) ∧ ((oArg T (fun j => E j 0) c (fun j => V j 0) d v9 p fun p => (0, p)).1 ≠ 0 → ∃ g, vM MT0 (D + 5) 255 [vR 452, vI v9, vI to] f = some ((1, 0), vW 3, g) ∧ ERR (oArg T (fun j => E j 0) c (fun j => V j 0) d v9 p fun p => (0, p)).1 (oArg T (fun j => E j 0) c (fun j => V j 0) d v9 p fun p => (0, p)).2 g ∧ FT f g) := by
    intro v9 hv9
    have ea : oArg T (fun j => E j 0) c (fun j => V j 0) d v9 p (fun p => (0, p)) = oIt T (fun j => V j 0) d p (fun q => if v9 = 2 then oIt T (fun j => E j 0) c q (fun p => (0, p)) else if v9 = 4 then oN T q 1 99 (fun p => (0, p)) else oN T q 1 999 (fun p => (0, p))) := by
      rcases hv9 with rfl | rfl | rfl
      · exact oArg_2
      · exact oArg_4
      · exact oArg_5
    rw [ea]
    -- behind an error
    have bad : ∀ {e q : Nat} {g : Vw}, vM MT0 (D + 4) 241 [vR 452, vI 1] f = some ((0, 0), vI 0, g) → ERR e q g → F9r f g → ∃ k, vM MT0 (D + 5) 255 [vR 452, vI v9, vI to] f = some ((1, 0), vW 3, k) ∧ ERR e q k ∧ FT f k := by
      intro e q g e1 hg hf
      have hg1 : ERR e q (vup g 463 to 0) := up hg
      rcases hv9 with rfl | rfl | rfl
      · exact ⟨_, tell2 (D := D) (b := 0) hto (Or.inl ⟨rfl, rfl, rfl⟩) e1 (e_mustBe (D := D + 2) hg1), up hg1, ft_463 (ft_463 (ft_of hf))⟩
      · exact ⟨_, tell2 (D := D) (b := 1) hto (Or.inr (Or.inl ⟨rfl, rfl, rfl⟩)) e1 (e_number (D := D + 3) hg1), up hg1, ft_463 (ft_463 (ft_of hf))⟩
      · exact ⟨_, tell2 (D := D) (b := 1) hto (Or.inr (Or.inr ⟨rfl, rfl, rfl⟩)) e1 (e_number (D := D + 3) hg1), up hg1, ft_463 (ft_463 (ft_of hf))⟩
    by_cases k1 : nOK T p
    rotate_left
    · obtain ⟨g, e, hg, hf⟩ := b1 k1
      rw [oIt_2 k1]
      exact ⟨fun w => absurd w n01, fun _ => bad e hg hf⟩
    by_cases k2 : fidx (fun j => V j 0) (pkr (tN T p)) d 0 = 4294967295
    · obtain ⟨g, e, hg, hf⟩ := b2 k1 k2
      rw [oIt_1 k1 k2]
      exact ⟨fun w => absurd w n31, fun _ => bad e hg hf⟩
    obtain ⟨g, e, hg, hf⟩ := b3 k1 k2
    rw [oIt_0 k1 k2]
    have hg1 := rs_463 (i := to) (x := fidx (fun j => V j 0) (pkr (tN T p)) d 0) hg
    have hf1 : FT f (vup g 463 to (fidx (fun j => V j 0) (pkr (tN T p)) d 0)) := ft_463 (ft_of hf)
    by_cases kv : v9 = 2
    · rw [if_pos kv]
      obtain ⟨c1, c2, c3⟩ := r_itE (D := D) hg1
      by_cases k3 : nOK T (tE T p)
      rotate_left
      · obtain ⟨k, e2, hk, hf2⟩ := c1 k3
        rw [oIt_2 k3]
        exact ⟨fun w => absurd w n01, fun _ => ⟨_, tell2 (D := D) hto (Or.inl ⟨kv, rfl, rfl⟩) e e2, up hk, ft_463 (ft_tr hf1 (ft_of hf2))⟩⟩
      by_cases k4 : fidx (fun j => E j 0) (pkr (tN T (tE T p))) c 0 = 4294967295
      · obtain ⟨k, e2, hk, hf2⟩ := c2 k3 k4
        rw [oIt_1 k3 k4]
        exact ⟨fun w => absurd w n31, fun _ => ⟨_, tell2 (D := D) hto (Or.inl ⟨kv, rfl, rfl⟩) e e2, up hk, ft_463 (ft_tr hf1 (ft_of hf2))⟩⟩
      · obtain ⟨k, e2, hk, hf2⟩ := c3 k3 k4
        rw [oIt_0 k3 k4]
        exact ⟨fun _ => ⟨_, tell2 (D := D) hto (Or.inl ⟨kv, rfl, rfl⟩) e e2, rs_463 hk, ft_463 (ft_tr hf1 (ft_of hf2)), tg_2 hf hf2 (Or.inr (Or.inr (Or.inl ⟨kv, fidx_n k2, fidx_n k4⟩)))⟩, fun w => absurd rfl w⟩
    · rw [if_neg kv]
      have go : ∀ hi9, hi9 < 10000 → ((v9 = 4 ∧ hi9 = 99) ∨ (v9 = 5 ∧ hi9 = 999)) → ((oN T (tE T p) 1 hi9 fun p => (0, p)).1 = 0 → ∃ g, vM MT0 (D + 5) 255 [vR 452, vI v9, vI to] f = some ((1, 0), vW 3, g) ∧ RS n T E V c d (oN T (tE T p) 1 hi9 fun p => (0, p)).2 g ∧ FT f g ∧ TG c d v9 to f g) ∧ ((oN T (tE T p) 1 hi9 fun p => (0, p)).1 ≠ 0 → ∃ g, vM MT0 (D + 5) 255 [vR 452, vI v9, vI to] f = some ((1, 0), vW 3, g) ∧ ERR (oN T (tE T p) 1 hi9 fun p => (0, p)).1 (oN T (tE T p) 1 hi9 fun p => (0, p)).2 g ∧ FT f g) := by
        intro hi9 h9 hh
        obtain ⟨c1, c2⟩ := r_num (D := D + 1) (lo := 1) (hi := hi9) hg1 (by decide) h9
        have hh2 : (v9 = 2 ∧ 235 = 241 ∧ [vR 452, vI 1, vI hi9] = [vR 452, vI 0]) ∨ (v9 = 4 ∧ 235 = 235 ∧ [vR 452, vI 1, vI hi9] = [vR 452, vI 1, vI 99]) ∨ (v9 = 5 ∧ 235 = 235 ∧ [vR 452, vI 1, vI hi9] = [vR 452, vI 1, vI 999]) := by
          rcases hh with ⟨x1, rfl⟩ | ⟨x1, rfl⟩
          · exact Or.inr (Or.inl ⟨x1, rfl, rfl⟩)
          · exact Or.inr (Or.inr ⟨x1, rfl, rfl⟩)
        by_cases k3 : nuC T (tE T p) 1 hi9 = 0
        · obtain ⟨k, e2, hk, hf2, -⟩ := c1 k3
          rw [oN_0 k3]
          have tv : TVal c d v9 (fidx (fun j => V j 0) (pkr (tN T p)) d 0) (tV T (tE T p)) := by
            have w9 := nuC_v k3
            rcases hh with ⟨x1, rfl⟩ | ⟨x1, rfl⟩
            · exact Or.inr (Or.inr (Or.inr (Or.inr (Or.inl ⟨x1, fidx_n k2, w9⟩))))
            · exact Or.inr (Or.inr (Or.inr (Or.inr (Or.inr ⟨x1, fidx_n k2, w9⟩))))
          exact ⟨fun _ => ⟨_, tell2 (D := D) hto hh2 e e2, rs_463 hk, ft_463 (ft_tr hf1 (ft_of hf2)), tg_2 hf hf2 tv⟩, fun w => absurd rfl w⟩
        · obtain ⟨k, e2, hk, hf2⟩ := c2 k3
          rw [oN_1 k3]
          exact ⟨fun w => absurd w k3, fun _ => ⟨_, tell2 (D := D) hto hh2 e e2, up hk, ft_463 (ft_tr hf1 (ft_of hf2))⟩⟩
      by_cases k4 : v9 = 4
      · rw [if_pos k4]
        exact go 99 (by decide) (Or.inl ⟨k4, rfl⟩)
      · rw [if_neg k4]
        exact go 999 (by decide) (Or.inr ⟨by omega, rfl⟩)
  rcases (show v = 0 ∨ v = 1 ∨ v = 2 ∨ v = 3 ∨ v = 4 ∨ v = 5 ∨ v = 6 by omega) with rfl | rfl | rfl | rfl | rfl | rfl | rfl
  · rw [oArg_0]
    obtain ⟨c1, c2⟩ := r_num (D := D + 1) (lo := 1) (hi := 60) h (by decide) (by decide)
    by_cases k : nuC T p 1 60 = 0
    · obtain ⟨g, e, hg, hf, -⟩ := c1 k
      rw [oN_0 k]
      exact ⟨fun _ => ⟨_, tell1 (D := D) hto1 (Or.inl ⟨rfl, rfl, rfl⟩) e, rs_463 hg, ft_463 (ft_of hf), tg_1 hf (fun y => Or.inl ⟨rfl, nuC_v k⟩)⟩, fun w => absurd rfl w⟩
    · obtain ⟨g, e, hg, hf⟩ := c2 k
      rw [oN_1 k]
      exact ⟨fun w => absurd w k, fun _ => ⟨_, tell1 (D := D) hto1 (Or.inl ⟨rfl, rfl, rfl⟩) e, up hg, ft_463 (ft_of hf)⟩⟩
  · rw [oArg_1]
    exact ⟨fun _ => ⟨f, vM_go rfl rfl rfl rfl fun F hF => (by (first | (exact rfl) | (refine (vF_g rfl rfl).trans ?_; refine (vF_g rfl rfl).trans ?_; exact rfl) | (refine (vF_g rfl rfl).trans ?_; refine (vF_g rfl rfl).trans ?_; refine (vF_g rfl rfl).trans ?_; exact rfl) | (refine (vF_g rfl rfl).trans ?_; exact rfl))), h, fun _ _ => rfl, Or.inr (Or.inl rfl), fun _ _ _ => rfl, fun _ _ _ _ => rfl⟩, fun w => absurd rfl w⟩
  · exact more 2 (Or.inl rfl)
  · exact echo 3 (Or.inl rfl) oArg_3
  · exact more 4 (Or.inr (Or.inl rfl))
  · exact more 5 (Or.inr (Or.inr rfl))
  · exact echo 6 (Or.inr rfl) oArg_6
theorem oVb_k {T : Nat → Nat} {p : Nat} : ∀ m w, oVb T p m w ≠ 4294967295 → tK T p = 1 := by
  intro m
  induction m with
  | zero => intro w h; exact absurd rfl h
  | succ m ih =>
    intro w h
    by_cases k : wOKc T w p
    · exact k.1
    · rw [oVb_n k] at h
      exact ih _ h
/-- what one command more leaves -/
def RG (c d i : Nat) (f k : Vw) : Prop := (∃ v, v < 7 ∧ k 463 (3 * i) = v ∧ TVal c d v (k 463 (3 * i + 1)) (k 463 (3 * i + 1 + 1))) ∧ (∀ j, j < 3 * i ∨ 3 * i + 3 ≤ j → k 463 j = f 463 j) ∧ (∀ a b, a ≠ 452 → a ≠ 463 → k a b = f a b) ∧ ∀ b, b < 17 ∨ (21 < b ∧ b ≠ 25) → k 452 b = f 452 b
theorem r_reads {D i : Nat} {n c d p : Nat} {T : Nat → Nat} {E V : Nat → Nat → Nat} {f : Vw} (h : RS n T E V c d p f) (h25 : f 452 25 = i) (hi : i ≤ 30) : (oVb T p 7 20 = 4294967295 → ∃ g, vM MT0 (D + 6) 256 [vR 452] f = some ((1, 0), vW 3, g) ∧ ERR 1 (tS T p) g) ∧ (oVb T p 7 20 ≠ 4294967295 → i = 30 → ∃ g, vM MT0 (D + 6) 256 [vR 452] f = some ((1, 0), vW 3, g) ∧ ERR 4 (tS T p) g) ∧ (oVb T p 7 20 ≠ 4294967295 → i < 30 → ((oOne T (fun j => E j 0) c (fun j => V j 0) d (oVb T p 7 20) (tE T p)).1 = 0 → ∃ g, vM MT0 (D + 6) 256 [vR 452] f = some ((1, 0), vW 3, g) ∧ RS n T E V c d (oOne T (fun j => E j 0) c (fun j => V j 0) d (oVb T p 7 20) (tE T p)).2 g ∧ g 452 25 = i + 1 ∧ RG c d i f g) ∧ ((oOne T (fun j => E j 0) c (fun j => V j 0) d (oVb T p 7 20) (tE T p)).1 ≠ 0 → ∃ g, vM MT0 (D + 6) 256 [vR 452] f = some ((1, 0), vW 3, g) ∧ ERR (oOne T (fun j => E j 0) c (fun j => V j 0) d (oVb T p 7 20) (tE T p)).1 (oOne T (fun j => E j 0) c (fun j => V j 0) d (oVb T p 7 20) (tE T p)).2 g)) := by
  have e0 := v_here (D := D) h
  have hr := rs_rkv h
  have e20 : rkv f T p 452 20 = 0 := hr.er.1
  have x25 : rkv f T p 452 25 = i := (rkv_o (Or.inr ⟨by decide, by decide, by decide⟩)).trans h25
  have hn := h.tx.1
  have hE := tE_ge h.tx.2.2.2.2 h.le
  have mst : ∀ (is c9 : Nat) (g : Vw), is = 0 ∨ is = 1 → g 452 20 < 5 → g 452 20 ≠ 0 ∨ is = 1 → vM MT0 (D + 5) 230 [vR 452, vI is, vI c9] g = some ((1, 0), vW 3, g) := by
    intro is c9 g his hl hk
    rw [v_must his (by omega), if_neg (fun w => hk.elim (fun x => x w.2) (fun x => by omega))]
  have fl25 : ∀ e, flR e (rkv f T p) 452 25 = i := fun e => (f9_fl (e := e) (f9_r (f := f) (T := T) (p := p)) 452 25 (Or.inr (Or.inr (by decide)))).trans h25
  refine ⟨fun kv => ?_, fun kv hi2 => ?_, fun kv hi2 => ?_⟩
  · rw [kv] at e0
    have m : vM MT0 (D + 5) 230 [vR 452, vI 0, vI 1] (rkv f T p) = some ((1, 0), vW 3, flR 1 (rkv f T p)) := by
      rw [v_must (Or.inl rfl) (by rw [e20]; decide), if_pos ⟨rfl, e20⟩]
    have y20 : flR 1 (rkv f T p) 452 20 = 1 := flR_20
    by_cases q : i < 30
    · exact ⟨_, vM_go rfl rfl rfl rfl fun F hF => (by (first | (refine (vbnd_0 e0).trans ?_) | (refine (vF_g rfl rfl).trans ?_; refine (vF_g rfl rfl).trans ?_; refine (vbnd_0 e0).trans ?_) | (refine (vF_g rfl rfl).trans ?_; refine (vbnd_0 e0).trans ?_)); (first | (refine (veq rfl).trans ?_) | (refine (vF_g rfl rfl).trans ?_; refine (vF_g rfl rfl).trans ?_; refine (veq rfl).trans ?_) | (refine (vF_g rfl rfl).trans ?_; refine (veq rfl).trans ?_)); (first | (refine (vbnd_1 m).trans ?_) | (refine (vF_g rfl rfl).trans ?_; refine (vF_g rfl rfl).trans ?_; refine (vbnd_1 m).trans ?_) | (refine (vF_g rfl rfl).trans ?_; refine (vbnd_1 m).trans ?_)); (first | (refine (vlt (x := flR 1 (rkv f T p) 452 25) (y := 30) (by decide) (by rw [fl25]; exact q)).trans ?_) | (refine (vF_g rfl rfl).trans ?_; refine (vF_g rfl rfl).trans ?_; refine (vlt (x := flR 1 (rkv f T p) 452 25) (y := 30) (by decide) (by rw [fl25]; exact q)).trans ?_) | (refine (vF_g rfl rfl).trans ?_; refine (vlt (x := flR 1 (rkv f T p) 452 25) (y := 30) (by decide) (by rw [fl25]; exact q)).trans ?_)); (first | (refine (vbnd_1 (mst 1 4 _ (Or.inr rfl) (by rw [y20]; decide) (Or.inr rfl))).trans ?_) | (refine (vF_g rfl rfl).trans ?_; refine (vF_g rfl rfl).trans ?_; refine (vbnd_1 (mst 1 4 _ (Or.inr rfl) (by rw [y20]; decide) (Or.inr rfl))).trans ?_) | (refine (vF_g rfl rfl).trans ?_; refine (vbnd_1 (mst 1 4 _ (Or.inr rfl) (by rw [y20]; decide) (Or.inr rfl))).trans ?_)); (first | (refine (vne (x := flR 1 (rkv f T p) 452 20) (y := 0) (by rw [y20]; decide) (by decide) (by rw [y20]; decide)).trans ?_) | (refine (vF_g rfl rfl).trans ?_; refine (vF_g rfl rfl).trans ?_; refine (vne (x := flR 1 (rkv f T p) 452 20) (y := 0) (by rw [y20]; decide) (by decide) (by rw [y20]; decide)).trans ?_) | (refine (vF_g rfl rfl).trans ?_; refine (vne (x := flR 1 (rkv f T p) 452 20) (y := 0) (by rw [y20]; decide) (by decide) (by rw [y20]; decide)).trans ?_)); (first | (exact rfl) | (refine (vF_g rfl rfl).trans ?_; refine (vF_g rfl rfl).trans ?_; exact rfl) | (refine (vF_g rfl rfl).trans ?_; refine (vF_g rfl rfl).trans ?_; refine (vF_g rfl rfl).trans ?_; exact rfl) | (refine (vF_g rfl rfl).trans ?_; exact rfl))), err_fl rkv_18 (by decide) (by decide)⟩
    · exact ⟨_, vM_go rfl rfl rfl rfl fun F hF => (by (first | (refine (vbnd_0 e0).trans ?_) | (refine (vF_g rfl rfl).trans ?_; refine (vF_g rfl rfl).trans ?_; refine (vbnd_0 e0).trans ?_) | (refine (vF_g rfl rfl).trans ?_; refine (vbnd_0 e0).trans ?_)); (first | (refine (veq rfl).trans ?_) | (refine (vF_g rfl rfl).trans ?_; refine (vF_g rfl rfl).trans ?_; refine (veq rfl).trans ?_) | (refine (vF_g rfl rfl).trans ?_; refine (veq rfl).trans ?_)); (first | (refine (vbnd_1 m).trans ?_) | (refine (vF_g rfl rfl).trans ?_; refine (vF_g rfl rfl).trans ?_; refine (vbnd_1 m).trans ?_) | (refine (vF_g rfl rfl).trans ?_; refine (vbnd_1 m).trans ?_)); (first | (refine (vge2 (x := flR 1 (rkv f T p) 452 25) (y := 30) (by rw [fl25]; omega) (by rw [fl25]; omega)).trans ?_) | (refine (vF_g rfl rfl).trans ?_; refine (vF_g rfl rfl).trans ?_; refine (vge2 (x := flR 1 (rkv f T p) 452 25) (y := 30) (by rw [fl25]; omega) (by rw [fl25]; omega)).trans ?_) | (refine (vF_g rfl rfl).trans ?_; refine (vge2 (x := flR 1 (rkv f T p) 452 25) (y := 30) (by rw [fl25]; omega) (by rw [fl25]; omega)).trans ?_)); (first | (refine (vbnd_1 (mst 0 4 _ (Or.inl rfl) (by rw [y20]; decide) (Or.inl (by rw [y20]; decide)))).trans ?_) | (refine (vF_g rfl rfl).trans ?_; refine (vF_g rfl rfl).trans ?_; refine (vbnd_1 (mst 0 4 _ (Or.inl rfl) (by rw [y20]; decide) (Or.inl (by rw [y20]; decide)))).trans ?_) | (refine (vF_g rfl rfl).trans ?_; refine (vbnd_1 (mst 0 4 _ (Or.inl rfl) (by rw [y20]; decide) (Or.inl (by rw [y20]; decide)))).trans ?_)); (first | (refine (vne (x := flR 1 (rkv f T p) 452 20) (y := 0) (by rw [y20]; decide) (by decide) (by rw [y20]; decide)).trans ?_) | (refine (vF_g rfl rfl).trans ?_; refine (vF_g rfl rfl).trans ?_; refine (vne (x := flR 1 (rkv f T p) 452 20) (y := 0) (by rw [y20]; decide) (by decide) (by rw [y20]; decide)).trans ?_) | (refine (vF_g rfl rfl).trans ?_; refine (vne (x := flR 1 (rkv f T p) 452 20) (y := 0) (by rw [y20]; decide) (by decide) (by rw [y20]; decide)).trans ?_)); (first | (exact rfl) | (refine (vF_g rfl rfl).trans ?_; refine (vF_g rfl rfl).trans ?_; exact rfl) | (refine (vF_g rfl rfl).trans ?_; refine (vF_g rfl rfl).trans ?_; refine (vF_g rfl rfl).trans ?_; exact rfl) | (refine (vF_g rfl rfl).trans ?_; exact rfl))), err_fl rkv_18 (by decide) (by decide)⟩
  · have kl : oVb T p 7 20 < 4294967296 := by
      rcases oVb_lt (T := T) (p := p) 7 20 (by decide) with k | ⟨-, k⟩ <;> omega
    have m : vM MT0 (D + 5) 230 [vR 452, vI 0, vI 4] (rkv f T p) = some ((1, 0), vW 3, flR 4 (rkv f T p)) := by
      rw [v_must (Or.inl rfl) (by rw [e20]; decide), if_pos ⟨rfl, e20⟩]
    have y20 : flR 4 (rkv f T p) 452 20 = 4 := flR_20
    exact ⟨_, vM_go rfl rfl rfl rfl fun F hF => (by (first | (refine (vbnd_0 e0).trans ?_) | (refine (vF_g rfl rfl).trans ?_; refine (vF_g rfl rfl).trans ?_; refine (vbnd_0 e0).trans ?_) | (refine (vF_g rfl rfl).trans ?_; refine (vbnd_0 e0).trans ?_)); (first | (refine (vne (x := oVb T p 7 20) (y := 4294967295) kl (by decide) kv).trans ?_) | (refine (vF_g rfl rfl).trans ?_; refine (vF_g rfl rfl).trans ?_; refine (vne (x := oVb T p 7 20) (y := 4294967295) kl (by decide) kv).trans ?_) | (refine (vF_g rfl rfl).trans ?_; refine (vne (x := oVb T p 7 20) (y := 4294967295) kl (by decide) kv).trans ?_)); (first | (refine (vbnd_1 (mst 1 1 _ (Or.inr rfl) (by rw [e20]; decide) (Or.inr rfl))).trans ?_) | (refine (vF_g rfl rfl).trans ?_; refine (vF_g rfl rfl).trans ?_; refine (vbnd_1 (mst 1 1 _ (Or.inr rfl) (by rw [e20]; decide) (Or.inr rfl))).trans ?_) | (refine (vF_g rfl rfl).trans ?_; refine (vbnd_1 (mst 1 1 _ (Or.inr rfl) (by rw [e20]; decide) (Or.inr rfl))).trans ?_)); (first | (refine (vge2 (x := rkv f T p 452 25) (y := 30) (by rw [x25]; omega) (by rw [x25]; omega)).trans ?_) | (refine (vF_g rfl rfl).trans ?_; refine (vF_g rfl rfl).trans ?_; refine (vge2 (x := rkv f T p 452 25) (y := 30) (by rw [x25]; omega) (by rw [x25]; omega)).trans ?_) | (refine (vF_g rfl rfl).trans ?_; refine (vge2 (x := rkv f T p 452 25) (y := 30) (by rw [x25]; omega) (by rw [x25]; omega)).trans ?_)); (first | (refine (vbnd_1 m).trans ?_) | (refine (vF_g rfl rfl).trans ?_; refine (vF_g rfl rfl).trans ?_; refine (vbnd_1 m).trans ?_) | (refine (vF_g rfl rfl).trans ?_; refine (vbnd_1 m).trans ?_)); (first | (refine (vne (x := flR 4 (rkv f T p) 452 20) (y := 0) (by rw [y20]; decide) (by decide) (by rw [y20]; decide)).trans ?_) | (refine (vF_g rfl rfl).trans ?_; refine (vF_g rfl rfl).trans ?_; refine (vne (x := flR 4 (rkv f T p) 452 20) (y := 0) (by rw [y20]; decide) (by decide) (by rw [y20]; decide)).trans ?_) | (refine (vF_g rfl rfl).trans ?_; refine (vne (x := flR 4 (rkv f T p) 452 20) (y := 0) (by rw [y20]; decide) (by decide) (by rw [y20]; decide)).trans ?_)); (first | (exact rfl) | (refine (vF_g rfl rfl).trans ?_; refine (vF_g rfl rfl).trans ?_; exact rfl) | (refine (vF_g rfl rfl).trans ?_; refine (vF_g rfl rfl).trans ?_; refine (vF_g rfl rfl).trans ?_; exact rfl) | (refine (vF_g rfl rfl).trans ?_; exact rfl))), err_fl rkv_18 (by decide) (by decide)⟩
  have kl : oVb T p 7 20 < 7 := by
    rcases oVb_lt (T := T) (p := p) 7 20 (by decide) with k | ⟨-, k⟩
    · exact absurd k kv
    · omega
  have hk1 := oVb_k 7 20 kv
  have hz := tZ_E hk1
  have z : vM MT0 (D + 5) 232 [vR 452] (rkv f T p) = some ((1, 0), vW 3, vup (rkv f T p) 452 17 (tE T p)) := by
    rw [v_goesPast, rkv_18, rkv_19, hz, Nat.mod_eq_of_lt (by omega)]
  generalize ev : oVb T p 7 20 = v at e0 kv kl
  have h2 : RS n T E V c d (tE T p) (vup (rkv f T p) 452 17 (tE T p)) := rs_past hr hE.2
  have h3 : RS n T E V c d (tE T p) (vup (vup (rkv f T p) 452 17 (tE T p)) 463 (3 * i) v) := rs_463 h2
  have y25 : vup (rkv f T p) 452 17 (tE T p) 452 25 = i := (vup_ne (Or.inr (by decide))).trans x25
  have z25 : vup (vup (rkv f T p) 452 17 (tE T p)) 463 (3 * i) v 452 25 = i := (vup_ne (Or.inl (by decide))).trans y25
  obtain ⟨p1, p2⟩ := r_parts (D := D) (v := v) (to := 3 * i + 1) h3 (by omega) kl
  have ei : g_imul 3 i = 3 * i := g_imul_s (show 3 * i < 2147483648 by omega) (by decide) (by omega)
  have arg : (g_imul 3 (vup (vup (rkv f T p) 452 17 (tE T p)) 463 (3 * i) v 452 25) + 1) % 4294967296 = 3 * i + 1 := by
    rw [z25, ei]
    omega
  rw [← arg] at p1 p2
  -- up to the parts
  have ent : ∀ r, (∀ F, 999940 ≤ F → vB (vM MT0 (D + 5)) (vFn (vM MT0 (D + 5)) nb_X11_readsOne (F + 54)) ((5, 0, 0, 0, 0, 0, 0), []) [(5, 2, 0, 0, 0, 0, 0), (5, 0, 1, 0, 0, 0, 0), (0, 3, 0, 0, 0, 0, 0), (5, 2, 0, 0, 0, 0, 0), (21, 11, 25, 0, 0, 0, 0), (10, 1, 0, 0, 0, 0, 0), (0, 1, 0, 0, 0, 0, 0), (9, 0, 0, 0, 0, 0, 0), (31, 14, 255, 3, 0, 0, 0), (5, 2, 0, 0, 0, 0, 0), (12, 0, 0, 0, 0, 0, 0), (21, 11, 25, 0, 0, 0, 0), (0, 1, 0, 0, 0, 0, 0), (9, 0, 0, 0, 0, 0, 0), (22, 0, 11, 25, 0, 0, 0), (5, 2, 0, 0, 0, 0, 0), (31, 14, 234, 1, 0, 0, 0)] 0 [vR 452, vI v] [] (vup (vup (rkv f T p) 452 17 (tE T p)) 463 (3 * i) v) = r) → vM MT0 (D + 6) 256 [vR 452] f = r := by
    intro r hr9
    refine vM_go rfl rfl rfl rfl fun F hF => ?_
    (first | (refine (vbnd_0 e0).trans ?_) | (refine (vF_g rfl rfl).trans ?_; refine (vF_g rfl rfl).trans ?_; refine (vbnd_0 e0).trans ?_) | (refine (vF_g rfl rfl).trans ?_; refine (vbnd_0 e0).trans ?_))
    (first | (refine (vne (x := v) (y := 4294967295) (by omega) (by decide) kv).trans ?_) | (refine (vF_g rfl rfl).trans ?_; refine (vF_g rfl rfl).trans ?_; refine (vne (x := v) (y := 4294967295) (by omega) (by decide) kv).trans ?_) | (refine (vF_g rfl rfl).trans ?_; refine (vne (x := v) (y := 4294967295) (by omega) (by decide) kv).trans ?_))
    (first | (refine (vbnd_1 (mst 1 1 _ (Or.inr rfl) (by rw [e20]; decide) (Or.inr rfl))).trans ?_) | (refine (vF_g rfl rfl).trans ?_; refine (vF_g rfl rfl).trans ?_; refine (vbnd_1 (mst 1 1 _ (Or.inr rfl) (by rw [e20]; decide) (Or.inr rfl))).trans ?_) | (refine (vF_g rfl rfl).trans ?_; refine (vbnd_1 (mst 1 1 _ (Or.inr rfl) (by rw [e20]; decide) (Or.inr rfl))).trans ?_))
    (first | (refine (vlt (x := rkv f T p 452 25) (y := 30) (by decide) (by rw [x25]; exact hi2)).trans ?_) | (refine (vF_g rfl rfl).trans ?_; refine (vF_g rfl rfl).trans ?_; refine (vlt (x := rkv f T p 452 25) (y := 30) (by decide) (by rw [x25]; exact hi2)).trans ?_) | (refine (vF_g rfl rfl).trans ?_; refine (vlt (x := rkv f T p 452 25) (y := 30) (by decide) (by rw [x25]; exact hi2)).trans ?_))
    (first | (refine (vbnd_1 (mst 1 4 _ (Or.inr rfl) (by rw [e20]; decide) (Or.inr rfl))).trans ?_) | (refine (vF_g rfl rfl).trans ?_; refine (vF_g rfl rfl).trans ?_; refine (vbnd_1 (mst 1 4 _ (Or.inr rfl) (by rw [e20]; decide) (Or.inr rfl))).trans ?_) | (refine (vF_g rfl rfl).trans ?_; refine (vbnd_1 (mst 1 4 _ (Or.inr rfl) (by rw [e20]; decide) (Or.inr rfl))).trans ?_))
    (first | (refine (veq e20).trans ?_) | (refine (vF_g rfl rfl).trans ?_; refine (vF_g rfl rfl).trans ?_; refine (veq e20).trans ?_) | (refine (vF_g rfl rfl).trans ?_; refine (veq e20).trans ?_))
    (first | (refine (vbnd_1 z).trans ?_) | (refine (vF_g rfl rfl).trans ?_; refine (vF_g rfl rfl).trans ?_; refine (vbnd_1 z).trans ?_) | (refine (vF_g rfl rfl).trans ?_; refine (vbnd_1 z).trans ?_))
    (first | (refine Eq.trans (b := gd (Nat.ble (g_imul 3 (vup (rkv f T p) 452 17 (tE T p) 452 25) + 1) 90) (vB (vM MT0 (D + 5)) (vFn (vM MT0 (D + 5)) nb_X11_readsOne (F + 54)) ((5, 0, 0, 0, 0, 0, 0), []) [(5, 2, 0, 0, 0, 0, 0), (5, 0, 1, 0, 0, 0, 0), (0, 3, 0, 0, 0, 0, 0), (5, 2, 0, 0, 0, 0, 0), (21, 11, 25, 0, 0, 0, 0), (10, 1, 0, 0, 0, 0, 0), (0, 1, 0, 0, 0, 0, 0), (9, 0, 0, 0, 0, 0, 0), (31, 14, 255, 3, 0, 0, 0), (5, 2, 0, 0, 0, 0, 0), (12, 0, 0, 0, 0, 0, 0), (21, 11, 25, 0, 0, 0, 0), (0, 1, 0, 0, 0, 0, 0), (9, 0, 0, 0, 0, 0, 0), (22, 0, 11, 25, 0, 0, 0), (5, 2, 0, 0, 0, 0, 0), (31, 14, 234, 1, 0, 0, 0)] 0 [vR 452, vI v] [] (vup (vup (rkv f T p) 452 17 (tE T p)) 463 (g_imul 3 (vup (rkv f T p) 452 17 (tE T p) 452 25)) v))) rfl ?_) | (refine (vF_g rfl rfl).trans ?_; refine (vF_g rfl rfl).trans ?_; refine Eq.trans (b := gd (Nat.ble (g_imul 3 (vup (rkv f T p) 452 17 (tE T p) 452 25) + 1) 90) (vB (vM MT0 (D + 5)) (vFn (vM MT0 (D + 5)) nb_X11_readsOne (F + 54)) ((5, 0, 0, 0, 0, 0, 0), []) [(5, 2, 0, 0, 0, 0, 0), (5, 0, 1, 0, 0, 0, 0), (0, 3, 0, 0, 0, 0, 0), (5, 2, 0, 0, 0, 0, 0), (21, 11, 25, 0, 0, 0, 0), (10, 1, 0, 0, 0, 0, 0), (0, 1, 0, 0, 0, 0, 0), (9, 0, 0, 0, 0, 0, 0), (31, 14, 255, 3, 0, 0, 0), (5, 2, 0, 0, 0, 0, 0), (12, 0, 0, 0, 0, 0, 0), (21, 11, 25, 0, 0, 0, 0), (0, 1, 0, 0, 0, 0, 0), (9, 0, 0, 0, 0, 0, 0), (22, 0, 11, 25, 0, 0, 0), (5, 2, 0, 0, 0, 0, 0), (31, 14, 234, 1, 0, 0, 0)] 0 [vR 452, vI v] [] (vup (vup (rkv f T p) 452 17 (tE T p)) 463 (g_imul 3 (vup (rkv f T p) 452 17 (tE T p) 452 25)) v))) rfl ?_) | (refine (vF_g rfl rfl).trans ?_; refine Eq.trans (b := gd (Nat.ble (g_imul 3 (vup (rkv f T p) 452 17 (tE T p) 452 25) + 1) 90) (vB (vM MT0 (D + 5)) (vFn (vM MT0 (D + 5)) nb_X11_readsOne (F + 54)) ((5, 0, 0, 0, 0, 0, 0), []) [(5, 2, 0, 0, 0, 0, 0), (5, 0, 1, 0, 0, 0, 0), (0, 3, 0, 0, 0, 0, 0), (5, 2, 0, 0, 0, 0, 0), (21, 11, 25, 0, 0, 0, 0), (10, 1, 0, 0, 0, 0, 0), (0, 1, 0, 0, 0, 0, 0), (9, 0, 0, 0, 0, 0, 0), (31, 14, 255, 3, 0, 0, 0), (5, 2, 0, 0, 0, 0, 0), (12, 0, 0, 0, 0, 0, 0), (21, 11, 25, 0, 0, 0, 0), (0, 1, 0, 0, 0, 0, 0), (9, 0, 0, 0, 0, 0, 0), (22, 0, 11, 25, 0, 0, 0), (5, 2, 0, 0, 0, 0, 0), (31, 14, 234, 1, 0, 0, 0)] 0 [vR 452, vI v] [] (vup (vup (rkv f T p) 452 17 (tE T p)) 463 (g_imul 3 (vup (rkv f T p) 452 17 (tE T p) 452 25)) v))) rfl ?_))
    rw [y25, ei, Nat.ble_eq_true_of_le (show 3 * i + 1 ≤ 90 by omega)]
    exact hr9 F hF
  have bk := bk_Arg (T := T) (N := fun j => E j 0) (c := c) (M := fun j => V j 0) (d := d) (v := v) (p := tE T p) (fun p => oS T p fun p => (0, p))
  by_cases k1 : (oArg T (fun j => E j 0) c (fun j => V j 0) d v (tE T p) fun p => (0, p)).1 = 0
  rotate_left
  · have e9 : oOne T (fun j => E j 0) c (fun j => V j 0) d v (tE T p) = oArg T (fun j => E j 0) c (fun j => V j 0) d v (tE T p) fun p => (0, p) := bk.2 k1
    rw [e9]
    obtain ⟨g, e, hg, hf⟩ := p2 k1
    have hg1 : ERR (oArg T (fun j => E j 0) c (fun j => V j 0) d v (tE T p) fun p => (0, p)).1 (oArg T (fun j => E j 0) c (fun j => V j 0) d v (tE T p) fun p => (0, p)).2 (vup g 452 25 ((g 452 25 + 1) % 4294967296)) := err_up hg (Or.inr (by decide))
    refine ⟨fun w => absurd w k1, fun _ => ⟨_, ent _ fun F hF => ?_, hg1⟩⟩
    (first | (refine (vbnd_1 e).trans ?_) | (refine (vF_g rfl rfl).trans ?_; refine (vF_g rfl rfl).trans ?_; refine (vbnd_1 e).trans ?_) | (refine (vF_g rfl rfl).trans ?_; refine (vbnd_1 e).trans ?_))
    (first | (refine (vbnd_1 (e_semi (D := D + 4) hg1)).trans ?_) | (refine (vF_g rfl rfl).trans ?_; refine (vF_g rfl rfl).trans ?_; refine (vbnd_1 (e_semi (D := D + 4) hg1)).trans ?_) | (refine (vF_g rfl rfl).trans ?_; refine (vbnd_1 (e_semi (D := D + 4) hg1)).trans ?_))
    (first | (exact rfl) | (refine (vF_g rfl rfl).trans ?_; refine (vF_g rfl rfl).trans ?_; exact rfl) | (refine (vF_g rfl rfl).trans ?_; refine (vF_g rfl rfl).trans ?_; refine (vF_g rfl rfl).trans ?_; exact rfl) | (refine (vF_g rfl rfl).trans ?_; exact rfl))
  obtain ⟨g, e, hg, hf, hgT⟩ := p1 k1
  have g25 : g 452 25 = i := (hf 25 (Or.inr (by decide))).trans z25
  have hg1 := rs_25 (x := (g 452 25 + 1) % 4294967296) hg
  obtain ⟨s1, s2⟩ := r_semi (D := D + 2) hg1
  generalize (oArg T (fun j => E j 0) c (fun j => V j 0) d v (tE T p) fun p => (0, p)).2 = q at bk hg hg1 s1 s2
  have e9 : oOne T (fun j => E j 0) c (fun j => V j 0) d v (tE T p) = oS T q fun p => (0, p) := bk.1 k1
  by_cases k3 : tK T q = 3
  · obtain ⟨k, e5, hk, hf5⟩ := s1 k3
    have e7 : oOne T (fun j => E j 0) c (fun j => V j 0) d v (tE T p) = (0, tE T q) := e9.trans (oS_0 k3)
    rw [e7]
    refine ⟨fun _ => ⟨k, ent _ fun F hF => ?_, hk, ?_, ?_⟩, fun w => absurd rfl w⟩
    · (first | (refine (vbnd_1 e).trans ?_) | (refine (vF_g rfl rfl).trans ?_; refine (vF_g rfl rfl).trans ?_; refine (vbnd_1 e).trans ?_) | (refine (vF_g rfl rfl).trans ?_; refine (vbnd_1 e).trans ?_))
      (first | (refine (vbnd_1 e5).trans ?_) | (refine (vF_g rfl rfl).trans ?_; refine (vF_g rfl rfl).trans ?_; refine (vbnd_1 e5).trans ?_) | (refine (vF_g rfl rfl).trans ?_; refine (vbnd_1 e5).trans ?_))
      (first | (exact rfl) | (refine (vF_g rfl rfl).trans ?_; refine (vF_g rfl rfl).trans ?_; exact rfl) | (refine (vF_g rfl rfl).trans ?_; refine (vF_g rfl rfl).trans ?_; refine (vF_g rfl rfl).trans ?_; exact rfl) | (refine (vF_g rfl rfl).trans ?_; exact rfl))
    · rw [hf5 452 25 (Or.inr (Or.inr (by decide))), vup_eq, g25, Nat.mod_eq_of_lt (by omega)]
    · rw [arg] at hgT
      obtain ⟨t1, t2, t3⟩ := hgT
      have kk : ∀ a b, a ≠ 452 → k a b = g a b := fun a b w => (hf5 a b (Or.inl w)).trans (vup_ne (Or.inl w))
      refine ⟨⟨v, kl, ?_, ?_⟩, fun j w => ?_, fun a b w1 w2 => ?_, fun b w => ?_⟩
      · rw [kk 463 _ (by decide), t2 (3 * i) (by omega) (by omega), vup_eq]
      · rw [kk 463 _ (by decide), kk 463 _ (by decide)]
        exact t1
      · rw [kk 463 _ (by decide), t2 j (by omega) (by omega), vup_ne (Or.inr (by omega)), vup_ne (Or.inl (by decide))]
        exact rkv_o (Or.inl (by decide))
      · rw [kk a b w1, t3 a b w1 w2, vup_ne (Or.inl w2), vup_ne (Or.inl w1)]
        exact rkv_o (Or.inl w1)
      · rw [hf5 452 b (Or.inr (by omega)), vup_ne (Or.inr (by omega)), hf b (by omega), vup_ne (Or.inl (by decide)), vup_ne (Or.inr (by omega))]
        exact rkv_o (Or.inr ⟨by omega, by omega, by omega⟩)
  · obtain ⟨k, e5, hk, hf5⟩ := s2 k3
    have e7 : oOne T (fun j => E j 0) c (fun j => V j 0) d v (tE T p) = (1, tS T q) := e9.trans (oS_1 k3)
    rw [e7]
    refine ⟨fun w => absurd w n01, fun _ => ⟨k, ent _ fun F hF => ?_, hk⟩⟩
    (first | (refine (vbnd_1 e).trans ?_) | (refine (vF_g rfl rfl).trans ?_; refine (vF_g rfl rfl).trans ?_; refine (vbnd_1 e).trans ?_) | (refine (vF_g rfl rfl).trans ?_; refine (vbnd_1 e).trans ?_))
    (first | (refine (vbnd_1 e5).trans ?_) | (refine (vF_g rfl rfl).trans ?_; refine (vF_g rfl rfl).trans ?_; refine (vbnd_1 e5).trans ?_) | (refine (vF_g rfl rfl).trans ?_; refine (vbnd_1 e5).trans ?_))
    (first | (exact rfl) | (refine (vF_g rfl rfl).trans ?_; refine (vF_g rfl rfl).trans ?_; exact rfl) | (refine (vF_g rfl rfl).trans ?_; refine (vF_g rfl rfl).trans ?_; refine (vF_g rfl rfl).trans ?_; exact rfl) | (refine (vF_g rfl rfl).trans ?_; exact rfl))
