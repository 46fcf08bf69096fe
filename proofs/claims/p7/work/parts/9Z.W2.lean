/-! what a command text says: pure, from a place of the text -/
noncomputable def oVb (T : Nat → Nat) (p : Nat) : Nat → Nat → Nat
  | 0, _ => 4294967295
  | m + 1, w => if tK T p = 1 ∧ tE T p - tS T p = (wrd w).length ∧ wq T (wrd w) (tS T p) = true then w - 20 else oVb T p m (w + 1)
theorem oVb_y {T : Nat → Nat} {p m w : Nat} (h : wOKc T w p) : oVb T p (m + 1) w = w - 20 := if_pos h
theorem oVb_n {T : Nat → Nat} {p m w : Nat} (h : ¬ wOKc T w p) : oVb T p (m + 1) w = oVb T p m (w + 1) := if_neg h
noncomputable def oArg (T N : Nat → Nat) (c : Nat) (M : Nat → Nat) (d v p : Nat) (k : Nat → Nat × Nat) : Nat × Nat := if v = 0 then oN T p 1 60 k else if v = 1 then k p else if v = 2 then oIt T M d p (fun q => oIt T N c q k) else if v = 4 then oIt T M d p (fun q => oN T q 1 99 k) else if v = 5 then oIt T M d p (fun q => oN T q 1 999 k) else oIt T N c p k
theorem oArg_0 {T N : Nat → Nat} {c : Nat} {M : Nat → Nat} {d p : Nat} {k : Nat → Nat × Nat} : oArg T N c M d 0 p k = oN T p 1 60 k := (if_pos rfl)
theorem oArg_1 {T N : Nat → Nat} {c : Nat} {M : Nat → Nat} {d p : Nat} {k : Nat → Nat × Nat} : oArg T N c M d 1 p k = k p := (if_neg (by decide)).trans ((if_pos rfl))
theorem oArg_2 {T N : Nat → Nat} {c : Nat} {M : Nat → Nat} {d p : Nat} {k : Nat → Nat × Nat} : oArg T N c M d 2 p k = oIt T M d p (fun q => oIt T N c q k) := (if_neg (by decide)).trans ((if_neg (by decide)).trans ((if_pos rfl)))
theorem oArg_3 {T N : Nat → Nat} {c : Nat} {M : Nat → Nat} {d p : Nat} {k : Nat → Nat × Nat} : oArg T N c M d 3 p k = oIt T N c p k := (if_neg (by decide)).trans ((if_neg (by decide)).trans ((if_neg (by decide)).trans ((if_neg (by decide)).trans ((if_neg (by decide))))))
theorem oArg_4 {T N : Nat → Nat} {c : Nat} {M : Nat → Nat} {d p : Nat} {k : Nat → Nat × Nat} : oArg T N c M d 4 p k = oIt T M d p (fun q => oN T q 1 99 k) := (if_neg (by decide)).trans ((if_neg (by decide)).trans ((if_neg (by decide)).trans ((if_pos rfl))))
theorem oArg_5 {T N : Nat → Nat} {c : Nat} {M : Nat → Nat} {d p : Nat} {k : Nat → Nat × Nat} : oArg T N c M d 5 p k = oIt T M d p (fun q => oN T q 1 999 k) := (if_neg (by decide)).trans ((if_neg (by decide)).trans ((if_neg (by decide)).trans ((if_neg (by decide)).trans ((if_pos rfl)))))
theorem oArg_6 {T N : Nat → Nat} {c : Nat} {M : Nat → Nat} {d p : Nat} {k : Nat → Nat × Nat} : oArg T N c M d 6 p k = oIt T N c p k := (if_neg (by decide)).trans ((if_neg (by decide)).trans ((if_neg (by decide)).trans ((if_neg (by decide)).trans ((if_neg (by decide))))))
noncomputable def oOne (T N : Nat → Nat) (c : Nat) (M : Nat → Nat) (d v p : Nat) : Nat × Nat := oArg T N c M d v p fun p => oS T p fun p => (0, p)
noncomputable def oCm (T N : Nat → Nat) (c : Nat) (M : Nat → Nat) (d : Nat) : Nat → Nat → Nat × Nat
  | 0, p => if tK T p = 0 then (0, p) else if oVb T p 7 20 = 4294967295 then (1, tS T p) else (4, tS T p)
  | m + 1, p => if tK T p = 0 then (0, p) else if oVb T p 7 20 = 4294967295 then (1, tS T p) else if (oOne T N c M d (oVb T p 7 20) (tE T p)).1 = 0 then oCm T N c M d m (oOne T N c M d (oVb T p 7 20) (tE T p)).2 else oOne T N c M d (oVb T p 7 20) (tE T p)
theorem oCm_0 {T N : Nat → Nat} {c : Nat} {M : Nat → Nat} {d p m : Nat} (h : tK T p = 0) : oCm T N c M d m p = (0, p) := by
  cases m with
  | zero => exact if_pos h
  | succ m => exact if_pos h
theorem oCm_1 {T N : Nat → Nat} {c : Nat} {M : Nat → Nat} {d p m : Nat} (h : tK T p ≠ 0) (h2 : oVb T p 7 20 = 4294967295) : oCm T N c M d m p = (1, tS T p) := by
  cases m with
  | zero => exact (if_neg h).trans (if_pos h2)
  | succ m => exact (if_neg h).trans (if_pos h2)
theorem oCm_4 {T N : Nat → Nat} {c : Nat} {M : Nat → Nat} {d p : Nat} (h : tK T p ≠ 0) (h2 : oVb T p 7 20 ≠ 4294967295) : oCm T N c M d 0 p = (4, tS T p) := (if_neg h).trans (if_neg h2)
theorem oCm_s {T N : Nat → Nat} {c : Nat} {M : Nat → Nat} {d p m : Nat} (h : tK T p ≠ 0) (h2 : oVb T p 7 20 ≠ 4294967295) (h3 : (oOne T N c M d (oVb T p 7 20) (tE T p)).1 = 0) : oCm T N c M d (m + 1) p = oCm T N c M d m (oOne T N c M d (oVb T p 7 20) (tE T p)).2 := (if_neg h).trans ((if_neg h2).trans (if_pos h3))
theorem oCm_e {T N : Nat → Nat} {c : Nat} {M : Nat → Nat} {d p m : Nat} (h : tK T p ≠ 0) (h2 : oVb T p 7 20 ≠ 4294967295) (h3 : (oOne T N c M d (oVb T p 7 20) (tE T p)).1 ≠ 0) : oCm T N c M d (m + 1) p = oOne T N c M d (oVb T p 7 20) (tE T p) := (if_neg h).trans ((if_neg h2).trans (if_neg h3))
theorem oVb_lt {T : Nat → Nat} {p : Nat} : ∀ (m w : Nat), 20 ≤ w → oVb T p m w = 4294967295 ∨ (w - 20 ≤ oVb T p m w ∧ oVb T p m w < w + m - 20) := by
  intro m
  induction m with
  | zero => intro w _; exact Or.inl rfl
  | succ m ih =>
    intro w hw
    by_cases q : wOKc T w p
    · rw [oVb_y q]
      exact Or.inr ⟨Nat.le_refl _, by omega⟩
    · rw [oVb_n q]
      rcases ih (w + 1) (by omega) with h | ⟨h1, h2⟩
      · exact Or.inl h
      · exact Or.inr ⟨by omega, by omega⟩
/-! one thing behind the other -/
def BkL (g : (Nat → Nat × Nat) → Nat × Nat) : Prop := ∀ k : Nat → Nat × Nat, ((g (fun p => (0, p))).1 = 0 → g k = k (g (fun p => (0, p))).2) ∧ ((g (fun p => (0, p))).1 ≠ 0 → g k = g (fun p => (0, p)))
theorem bk_N {T : Nat → Nat} {p lo hi : Nat} : BkL (oN T p lo hi) := by
  intro k
  by_cases h : nuC T p lo hi = 0
  · rw [oN_0 h, oN_0 h]
    exact ⟨fun _ => rfl, fun w => absurd rfl w⟩
  · rw [oN_1 h, oN_1 h]
    exact ⟨fun w => absurd w h, fun _ => rfl⟩
theorem bk_It {T N : Nat → Nat} {c p : Nat} : BkL (oIt T N c p) := by
  intro k
  by_cases h : nOK T p
  · by_cases h2 : fidx N (pkr (tN T p)) c 0 = 4294967295
    · rw [oIt_1 h h2, oIt_1 h h2]
      exact ⟨fun w => absurd w n31, fun _ => rfl⟩
    · rw [oIt_0 h h2, oIt_0 h h2]
      exact ⟨fun _ => rfl, fun w => absurd rfl w⟩
  · rw [oIt_2 h, oIt_2 h]
    exact ⟨fun w => absurd w n01, fun _ => rfl⟩
theorem bk_id {p : Nat} : BkL (fun k => k p) := fun k => ⟨fun _ => rfl, fun w => absurd rfl w⟩
theorem bk_bk {g : (Nat → Nat × Nat) → Nat × Nat} {h : Nat → (Nat → Nat × Nat) → Nat × Nat} (hg : BkL g) (hh : ∀ q, BkL (h q)) : BkL (fun k => g (fun q => h q k)) := by
  intro k
  by_cases e : (g (fun p => (0, p))).1 = 0
  · have e1 := (hg (fun q => h q k)).1 e
    have e2 := (hg (fun q => h q (fun p => (0, p)))).1 e
    show ((g (fun q => h q (fun p => (0, p)))).1 = 0 → g (fun q => h q k) = k (g (fun q => h q (fun p => (0, p)))).2) ∧ ((g (fun q => h q (fun p => (0, p)))).1 ≠ 0 → g (fun q => h q k) = g (fun q => h q (fun p => (0, p))))
    rw [e1, e2]
    exact hh _ k
  · have e1 := (hg (fun q => h q k)).2 e
    have e2 := (hg (fun q => h q (fun p => (0, p)))).2 e
    show ((g (fun q => h q (fun p => (0, p)))).1 = 0 → g (fun q => h q k) = k (g (fun q => h q (fun p => (0, p)))).2) ∧ ((g (fun q => h q (fun p => (0, p)))).1 ≠ 0 → g (fun q => h q k) = g (fun q => h q (fun p => (0, p))))
    rw [e1, e2]
    exact ⟨fun w => absurd w e, fun _ => rfl⟩
theorem bk_Arg {T N : Nat → Nat} {c : Nat} {M : Nat → Nat} {d v p : Nat} : BkL (oArg T N c M d v p) := by
  by_cases h0 : v = 0
  · intro k
    subst h0
    rw [oArg_0, oArg_0]
    exact bk_N k
  · by_cases h1 : v = 1
    · intro k
      subst h1
      rw [oArg_1, oArg_1]
      exact bk_id (p := p) k
    · by_cases h2 : v = 2
      · intro k
        subst h2
        rw [oArg_2, oArg_2]
        exact bk_bk (g := oIt T M d p) (h := fun q => oIt T N c q) bk_It (fun q => bk_It) k
      · by_cases h4 : v = 4
        · intro k
          subst h4
          rw [oArg_4, oArg_4]
          exact bk_bk (g := oIt T M d p) (h := fun q => oN T q 1 99) bk_It (fun q => bk_N) k
        · by_cases h5 : v = 5
          · intro k
            subst h5
            rw [oArg_5, oArg_5]
            exact bk_bk (g := oIt T M d p) (h := fun q => oN T q 1 999) bk_It (fun q => bk_N) k
          · intro k
            have e : ∀ k, oArg T N c M d v p k = oIt T N c p k := fun k => (if_neg h0).trans ((if_neg h1).trans ((if_neg h2).trans ((if_neg h4).trans (if_neg h5))))
            rw [e, e]
            exact bk_It k
/-! the program's parser of commands -/
def CB (B : Vw) (n : Nat) (T N : Nat → Nat) (c : Nat) (M : Nat → Nat) (d : Nat) : Prop := TxC B n T ∧ B 7 2 = c ∧ c ≤ 12 ∧ (∀ j, j < c → lsg (B (10 + j) 0) = lsg (N j) ∧ N j < 9223372036854775808) ∧ B 7 3 = d ∧ d ≤ 8 ∧ ∀ j, j < d → lsg (B (22 + 3 * j) 0) = lsg (M j) ∧ M j < 9223372036854775808
def OKm (B f : Vw) : Prop := ∀ a b, a ≠ 446 → (a < 448 ∨ 451 < a) → f a b = B a b
def PSm (B : Vw) (n p i : Nat) (f : Vw) : Prop := OKm B f ∧ f 446 1 = p ∧ p ≤ n ∧ f 448 4 = i ∧ f 446 6 = 0 ∧ f 446 7 = 4294967295
def PEm (B : Vw) (e q : Nat) (f : Vw) : Prop := OKm B f ∧ f 446 6 = e ∧ f 446 7 = q
theorem om_tk {B f : Vw} {T : Nat → Nat} {p : Nat} (h : OKm B f) : OKm B (tk9 f T p) := fun a b h1 h2 => (tk9_o h1).trans (h a b h1 h2)
theorem om_fl {B f : Vw} {e : Nat} (h : OKm B f) : OKm B (fl e f) := fun a b h1 h2 => (fl_o9 h1).trans (h a b h1 h2)
theorem om_up {B f : Vw} {k i x : Nat} (h : OKm B f) (hk : k = 446 ∨ (448 ≤ k ∧ k ≤ 451)) : OKm B (vup f k i x) := fun a b h1 h2 => (vup_ne (Or.inl (by omega))).trans (h a b h1 h2)
theorem om_tx {B f : Vw} {n : Nat} {T : Nat → Nat} (h : OKm B f) (hx : TxC B n T) : TxC f n T := txC_of hx (fun i => h 1 i (by decide) (Or.inl (by decide))) (fun i => h 2 i (by decide) (Or.inl (by decide)))
theorem pe_fl {B g : Vw} {e q : Nat} (h : OKm B g) (h3 : g 446 3 = q) : PEm B e q (fl e g) := ⟨om_fl h, (vup_ne (Or.inr (by decide))).trans vup_eq, vup_eq.trans h3⟩
theorem ps_tk {B f : Vw} {n p i : Nat} {T : Nat → Nat} (h : PSm B n p i f) (hx : TxC B n T) : PSm B n (tE T p) i (tk9 f T p) := ⟨om_tk h.1, tkq_1, (tE_le hx.2.2.2.2 h.2.2.1).2, (tk9_o (by decide)).trans h.2.2.2.1, (tkv_o (Or.inr (Or.inr (by decide)))).trans h.2.2.2.2.1, (tkv_o (Or.inr (Or.inr (by decide)))).trans h.2.2.2.2.2⟩
theorem ps_up5 {B f : Vw} {n p i x : Nat} (h : PSm B n p i f) : PSm B n p i (vup f 446 5 x) := ⟨om_up h.1 (Or.inl rfl), (vup_ne (Or.inr (by decide))).trans h.2.1, h.2.2.1, (vup_ne (Or.inl (by decide))).trans h.2.2.2.1, (vup_ne (Or.inr (by decide))).trans h.2.2.2.2.1, (vup_ne (Or.inr (by decide))).trans h.2.2.2.2.2⟩
theorem ps_ar {B f : Vw} {n p i k j x : Nat} (h : PSm B n p i f) (hk : 449 ≤ k ∧ k ≤ 451) : PSm B n p i (vup f k j x) := ⟨om_up h.1 (Or.inr ⟨by omega, hk.2⟩), (vup_ne (Or.inl (by omega))).trans h.2.1, h.2.2.1, (vup_ne (Or.inl (by omega))).trans h.2.2.2.1, (vup_ne (Or.inl (by omega))).trans h.2.2.2.2.1, (vup_ne (Or.inl (by omega))).trans h.2.2.2.2.2⟩
theorem pe_ar {B f : Vw} {e q k j x : Nat} (h : PEm B e q f) (hk : 449 ≤ k ∧ k ≤ 451) : PEm B e q (vup f k j x) := ⟨om_up h.1 (Or.inr ⟨by omega, hk.2⟩), (vup_ne (Or.inl (by omega))).trans h.2.1, (vup_ne (Or.inl (by omega))).trans h.2.2⟩
section CMD
variable {B : Vw} {n : Nat} {T N : Nat → Nat} {c : Nat} {M : Nat → Nat} {d : Nat}
theorem p_num {D p i lo hi : Nat} {f : Vw} (hB : CB B n T N c M d) (h : PSm B n p i f) (hlo : lo < 10000) (hhi : hi < 10000) : (nuC T p lo hi = 0 → ∃ g, vM MT0 (D + 3) 55 [vR 446, vI lo, vI hi] f = some ((0, 0), vI 1, g) ∧ PSm B n (tE T p) i g) ∧ (nuC T p lo hi ≠ 0 → ∃ g, vM MT0 (D + 3) 55 [vR 446, vI lo, vI hi] f = some ((0, 0), vI 0, g) ∧ PEm B (nuC T p lo hi) (tS T p) g ∧ g 448 4 = i) := by
  obtain ⟨w1, w2⟩ := v_takeNumber (D := D) (om_tx h.1 hB.1) h.2.1 h.2.2.1 hlo hhi
  refine ⟨fun q => ⟨_, w1 q, ps_tk h hB.1⟩, fun q => ⟨_, w2 q, pe_fl (om_tk h.1) tkq_3, (fl_o9 (by decide)).trans ((tk9_o (by decide)).trans h.2.2.2.1)⟩⟩
end CMD
theorem v_takeEcho7L {D n p c : Nat} {T N : Nat → Nat} {f : Vw} (hx : TxC f n T) (hp9 : f 446 1 = p) (hp : p ≤ n) (hc : f 7 2 = c) (hc9 : c ≤ 12) (hN : ∀ j, j < c → lsg (f (10 + j) 0) = lsg (N j) ∧ N j < 9223372036854775808) : (¬ nOK T p → vM MT0 (D + 4) 57 [vR 446, vR 7] f = some ((0, 0), vI 0, fl 1 (tk9 f T p))) ∧ (nOK T p → fidx N (pkr (tN T p)) c 0 = 4294967295 → vM MT0 (D + 4) 57 [vR 446, vR 7] f = some ((0, 0), vI 0, fl 3 (vup (tk9 f T p) 446 5 (fidx N (pkr (tN T p)) c 0)))) ∧ (nOK T p → fidx N (pkr (tN T p)) c 0 ≠ 4294967295 → vM MT0 (D + 4) 57 [vR 446, vR 7] f = some ((0, 0), vI 1, vup (tk9 f T p) 446 5 (fidx N (pkr (tN T p)) c 0))) := by
  obtain ⟨a1, a2⟩ := tS_le hx.2.2.2.2 hp
  have hn9 := hx.1
  obtain ⟨w1, w2⟩ := v_isName9 (D := D + 2) (txC_tk (f := f) (p := p) hx) hp tkq_2 tkq_4
  have g : ∀ j, j < c → lsg (tk9 f T p (10 + j) 0) = lsg (N j) := fun j hj => (congrArg lsg (tkv_o (Or.inr (Or.inl rfl)))).trans (hN j hj).1
  have e5 : vup (tk9 f T p) 446 5 (fidx N (pkr (tN T p)) c 0) 446 5 = fidx N (pkr (tN T p)) c 0 := vup_eq
  have key : nOK T p → ∀ F, vFn (vM MT0 (D + 3)) nb_X7_takeEcho (F + 60) 0 0 [vR 446, vR 7] [] f = vc3 (bv ((vup (tk9 f T p) 446 5 (fidx N (pkr (tN T p)) c 0)) 446 5)) (bv 4294967295) (vFn (vM MT0 (D + 3)) nb_X7_takeEcho (F + 58) 4 0 [vR 446, vR 7] [] (vup (tk9 f T p) 446 5 (fidx N (pkr (tN T p)) c 0))) (vFn (vM MT0 (D + 3)) nb_X7_takeEcho (F + 58) 3 0 [vR 446, vR 7] [] (vup (tk9 f T p) 446 5 (fidx N (pkr (tN T p)) c 0))) (vFn (vM MT0 (D + 3)) nb_X7_takeEcho (F + 58) 4 0 [vR 446, vR 7] [] (vup (tk9 f T p) 446 5 (fidx N (pkr (tN T p)) c 0))) := by
    intro h F
    have e1 := v_nameAt (D := D + 1) (s := tk9 f T p 446 3) (z := tk9 f T p 446 4) (txC_tk (f := f) (p := p) hx) (by rw [tkq_3]; omega) (by rw [tkq_4]; exact word_1 h.1) (by rw [tkq_4]; exact h.2) (fun j hj => by rw [tkq_3]; exact word_l h.1 j (by rw [← tkq_4]; exact hj))
    rw [tkq_3, tkq_4] at e1
    have e2 := v_echoNamed7L (E := N) (D := D + 2) (x := pkr (tN T p)) (c := c) (f := tk9 f T p) (tN_lt h) ((tkv_o (Or.inl (by decide))).trans hc) hc9 (fun j hj => ⟨(hN j hj).2, g j hj⟩)
    (first | (refine (vbnd_1 (v_next9 hx hp9 hp)).trans ?_) | (refine (vF_g rfl rfl).trans ?_; refine (vF_g rfl rfl).trans ?_; refine (vbnd_1 (v_next9 hx hp9 hp)).trans ?_) | (refine (vF_g rfl rfl).trans ?_; refine (vbnd_1 (v_next9 hx hp9 hp)).trans ?_))
    (first | (refine (vbnd_0 (w1 h)).trans ?_) | (refine (vF_g rfl rfl).trans ?_; refine (vF_g rfl rfl).trans ?_; refine (vbnd_0 (w1 h)).trans ?_) | (refine (vF_g rfl rfl).trans ?_; refine (vbnd_0 (w1 h)).trans ?_))
    (first | (refine (vgt (x := 1) (y := 0) (by decide) (by decide)).trans ?_) | (refine (vF_g rfl rfl).trans ?_; refine (vF_g rfl rfl).trans ?_; refine (vgt (x := 1) (y := 0) (by decide) (by decide)).trans ?_) | (refine (vF_g rfl rfl).trans ?_; refine (vgt (x := 1) (y := 0) (by decide) (by decide)).trans ?_))
    (first | (refine (vbnd_0 e1).trans ?_) | (refine (vF_g rfl rfl).trans ?_; refine (vF_g rfl rfl).trans ?_; refine (vbnd_0 e1).trans ?_) | (refine (vF_g rfl rfl).trans ?_; refine (vbnd_0 e1).trans ?_))
    (first | (refine (vbnd_0 e2).trans ?_) | (refine (vF_g rfl rfl).trans ?_; refine (vF_g rfl rfl).trans ?_; refine (vbnd_0 e2).trans ?_) | (refine (vF_g rfl rfl).trans ?_; refine (vbnd_0 e2).trans ?_))
    (first | (exact rfl) | (refine (vF_g rfl rfl).trans ?_; refine (vF_g rfl rfl).trans ?_; exact rfl) | (refine (vF_g rfl rfl).trans ?_; refine (vF_g rfl rfl).trans ?_; refine (vF_g rfl rfl).trans ?_; exact rfl) | (refine (vF_g rfl rfl).trans ?_; exact rfl))
  refine ⟨fun h => ?_, fun h h2 => ?_, fun h h2 => ?_⟩
  · refine vM_go rfl rfl rfl rfl fun F hF => ?_
    (first | (refine (vbnd_1 (v_next9 hx hp9 hp)).trans ?_) | (refine (vF_g rfl rfl).trans ?_; refine (vF_g rfl rfl).trans ?_; refine (vbnd_1 (v_next9 hx hp9 hp)).trans ?_) | (refine (vF_g rfl rfl).trans ?_; refine (vbnd_1 (v_next9 hx hp9 hp)).trans ?_))
    (first | (refine (vbnd_0 (w2 h)).trans ?_) | (refine (vF_g rfl rfl).trans ?_; refine (vF_g rfl rfl).trans ?_; refine (vbnd_0 (w2 h)).trans ?_) | (refine (vF_g rfl rfl).trans ?_; refine (vbnd_0 (w2 h)).trans ?_))
    (first | (refine (veq (x := 0) (y := 0) rfl).trans ?_) | (refine (vF_g rfl rfl).trans ?_; refine (vF_g rfl rfl).trans ?_; refine (veq (x := 0) (y := 0) rfl).trans ?_) | (refine (vF_g rfl rfl).trans ?_; refine (veq (x := 0) (y := 0) rfl).trans ?_))
    (first | (refine (vbnd_0 v_fail9).trans ?_) | (refine (vF_g rfl rfl).trans ?_; refine (vF_g rfl rfl).trans ?_; refine (vbnd_0 v_fail9).trans ?_) | (refine (vF_g rfl rfl).trans ?_; refine (vbnd_0 v_fail9).trans ?_))
    (first | (exact rfl) | (refine (vF_g rfl rfl).trans ?_; refine (vF_g rfl rfl).trans ?_; exact rfl) | (refine (vF_g rfl rfl).trans ?_; refine (vF_g rfl rfl).trans ?_; refine (vF_g rfl rfl).trans ?_; exact rfl) | (refine (vF_g rfl rfl).trans ?_; exact rfl))
  · refine vM_go rfl rfl rfl rfl fun F hF => (key h F).trans ?_
    (first | (refine (veq (e5.trans h2)).trans ?_) | (refine (vF_g rfl rfl).trans ?_; refine (vF_g rfl rfl).trans ?_; refine (veq (e5.trans h2)).trans ?_) | (refine (vF_g rfl rfl).trans ?_; refine (veq (e5.trans h2)).trans ?_))
    (first | (refine (vbnd_0 v_fail9).trans ?_) | (refine (vF_g rfl rfl).trans ?_; refine (vF_g rfl rfl).trans ?_; refine (vbnd_0 v_fail9).trans ?_) | (refine (vF_g rfl rfl).trans ?_; refine (vbnd_0 v_fail9).trans ?_))
    (first | (refine (veq (x := 0) (y := 0) rfl).trans ?_) | (refine (vF_g rfl rfl).trans ?_; refine (vF_g rfl rfl).trans ?_; refine (veq (x := 0) (y := 0) rfl).trans ?_) | (refine (vF_g rfl rfl).trans ?_; refine (veq (x := 0) (y := 0) rfl).trans ?_))
    (first | (exact rfl) | (refine (vF_g rfl rfl).trans ?_; refine (vF_g rfl rfl).trans ?_; exact rfl) | (refine (vF_g rfl rfl).trans ?_; refine (vF_g rfl rfl).trans ?_; refine (vF_g rfl rfl).trans ?_; exact rfl) | (refine (vF_g rfl rfl).trans ?_; exact rfl))
  · have hl : fidx N (pkr (tN T p)) c 0 < 4294967296 := by
      rcases fidx_lt (g := N) (x := pkr (tN T p)) c 0 with q | ⟨_, q, _⟩ <;> omega
    refine vM_go rfl rfl rfl rfl fun F hF => (key h F).trans ?_
    (first | (refine (vne (by rw [e5]; exact hl) (by decide) (by rw [e5]; exact h2)).trans ?_) | (refine (vF_g rfl rfl).trans ?_; refine (vF_g rfl rfl).trans ?_; refine (vne (by rw [e5]; exact hl) (by decide) (by rw [e5]; exact h2)).trans ?_) | (refine (vF_g rfl rfl).trans ?_; refine (vne (by rw [e5]; exact hl) (by decide) (by rw [e5]; exact h2)).trans ?_))
    (first | (exact rfl) | (refine (vF_g rfl rfl).trans ?_; refine (vF_g rfl rfl).trans ?_; exact rfl) | (refine (vF_g rfl rfl).trans ?_; refine (vF_g rfl rfl).trans ?_; refine (vF_g rfl rfl).trans ?_; exact rfl) | (refine (vF_g rfl rfl).trans ?_; exact rfl))
theorem v_takeValley7L {D n p c : Nat} {T N : Nat → Nat} {f : Vw} (hx : TxC f n T) (hp9 : f 446 1 = p) (hp : p ≤ n) (hc : f 7 3 = c) (hc9 : c ≤ 8) (hN : ∀ j, j < c → lsg (f (22 + 3 * j) 0) = lsg (N j) ∧ N j < 9223372036854775808) : (¬ nOK T p → vM MT0 (D + 4) 58 [vR 446, vR 7] f = some ((0, 0), vI 0, fl 1 (tk9 f T p))) ∧ (nOK T p → fidx N (pkr (tN T p)) c 0 = 4294967295 → vM MT0 (D + 4) 58 [vR 446, vR 7] f = some ((0, 0), vI 0, fl 3 (vup (tk9 f T p) 446 5 (fidx N (pkr (tN T p)) c 0)))) ∧ (nOK T p → fidx N (pkr (tN T p)) c 0 ≠ 4294967295 → vM MT0 (D + 4) 58 [vR 446, vR 7] f = some ((0, 0), vI 1, vup (tk9 f T p) 446 5 (fidx N (pkr (tN T p)) c 0))) := by
  obtain ⟨a1, a2⟩ := tS_le hx.2.2.2.2 hp
  have hn9 := hx.1
  obtain ⟨w1, w2⟩ := v_isName9 (D := D + 2) (txC_tk (f := f) (p := p) hx) hp tkq_2 tkq_4
  have g : ∀ j, j < c → lsg (tk9 f T p (22 + 3 * j) 0) = lsg (N j) := fun j hj => (congrArg lsg (tkv_o (Or.inr (Or.inl rfl)))).trans (hN j hj).1
  have e5 : vup (tk9 f T p) 446 5 (fidx N (pkr (tN T p)) c 0) 446 5 = fidx N (pkr (tN T p)) c 0 := vup_eq
  have key : nOK T p → ∀ F, vFn (vM MT0 (D + 3)) nb_X7_takeValley (F + 60) 0 0 [vR 446, vR 7] [] f = vc3 (bv ((vup (tk9 f T p) 446 5 (fidx N (pkr (tN T p)) c 0)) 446 5)) (bv 4294967295) (vFn (vM MT0 (D + 3)) nb_X7_takeValley (F + 58) 4 0 [vR 446, vR 7] [] (vup (tk9 f T p) 446 5 (fidx N (pkr (tN T p)) c 0))) (vFn (vM MT0 (D + 3)) nb_X7_takeValley (F + 58) 3 0 [vR 446, vR 7] [] (vup (tk9 f T p) 446 5 (fidx N (pkr (tN T p)) c 0))) (vFn (vM MT0 (D + 3)) nb_X7_takeValley (F + 58) 4 0 [vR 446, vR 7] [] (vup (tk9 f T p) 446 5 (fidx N (pkr (tN T p)) c 0))) := by
    intro h F
    have e1 := v_nameAt (D := D + 1) (s := tk9 f T p 446 3) (z := tk9 f T p 446 4) (txC_tk (f := f) (p := p) hx) (by rw [tkq_3]; omega) (by rw [tkq_4]; exact word_1 h.1) (by rw [tkq_4]; exact h.2) (fun j hj => by rw [tkq_3]; exact word_l h.1 j (by rw [← tkq_4]; exact hj))
    rw [tkq_3, tkq_4] at e1
    have e2 := v_valleyNamed7L (E := N) (D := D + 2) (x := pkr (tN T p)) (c := c) (f := tk9 f T p) (tN_lt h) ((tkv_o (Or.inl (by decide))).trans hc) hc9 (fun j hj => ⟨(hN j hj).2, g j hj⟩)
    (first | (refine (vbnd_1 (v_next9 hx hp9 hp)).trans ?_) | (refine (vF_g rfl rfl).trans ?_; refine (vF_g rfl rfl).trans ?_; refine (vbnd_1 (v_next9 hx hp9 hp)).trans ?_) | (refine (vF_g rfl rfl).trans ?_; refine (vbnd_1 (v_next9 hx hp9 hp)).trans ?_))
    (first | (refine (vbnd_0 (w1 h)).trans ?_) | (refine (vF_g rfl rfl).trans ?_; refine (vF_g rfl rfl).trans ?_; refine (vbnd_0 (w1 h)).trans ?_) | (refine (vF_g rfl rfl).trans ?_; refine (vbnd_0 (w1 h)).trans ?_))
    (first | (refine (vgt (x := 1) (y := 0) (by decide) (by decide)).trans ?_) | (refine (vF_g rfl rfl).trans ?_; refine (vF_g rfl rfl).trans ?_; refine (vgt (x := 1) (y := 0) (by decide) (by decide)).trans ?_) | (refine (vF_g rfl rfl).trans ?_; refine (vgt (x := 1) (y := 0) (by decide) (by decide)).trans ?_))
    (first | (refine (vbnd_0 e1).trans ?_) | (refine (vF_g rfl rfl).trans ?_; refine (vF_g rfl rfl).trans ?_; refine (vbnd_0 e1).trans ?_) | (refine (vF_g rfl rfl).trans ?_; refine (vbnd_0 e1).trans ?_))
    (first | (refine (vbnd_0 e2).trans ?_) | (refine (vF_g rfl rfl).trans ?_; refine (vF_g rfl rfl).trans ?_; refine (vbnd_0 e2).trans ?_) | (refine (vF_g rfl rfl).trans ?_; refine (vbnd_0 e2).trans ?_))
    (first | (exact rfl) | (refine (vF_g rfl rfl).trans ?_; refine (vF_g rfl rfl).trans ?_; exact rfl) | (refine (vF_g rfl rfl).trans ?_; refine (vF_g rfl rfl).trans ?_; refine (vF_g rfl rfl).trans ?_; exact rfl) | (refine (vF_g rfl rfl).trans ?_; exact rfl))
  refine ⟨fun h => ?_, fun h h2 => ?_, fun h h2 => ?_⟩
  · refine vM_go rfl rfl rfl rfl fun F hF => ?_
    (first | (refine (vbnd_1 (v_next9 hx hp9 hp)).trans ?_) | (refine (vF_g rfl rfl).trans ?_; refine (vF_g rfl rfl).trans ?_; refine (vbnd_1 (v_next9 hx hp9 hp)).trans ?_) | (refine (vF_g rfl rfl).trans ?_; refine (vbnd_1 (v_next9 hx hp9 hp)).trans ?_))
    (first | (refine (vbnd_0 (w2 h)).trans ?_) | (refine (vF_g rfl rfl).trans ?_; refine (vF_g rfl rfl).trans ?_; refine (vbnd_0 (w2 h)).trans ?_) | (refine (vF_g rfl rfl).trans ?_; refine (vbnd_0 (w2 h)).trans ?_))
    (first | (refine (veq (x := 0) (y := 0) rfl).trans ?_) | (refine (vF_g rfl rfl).trans ?_; refine (vF_g rfl rfl).trans ?_; refine (veq (x := 0) (y := 0) rfl).trans ?_) | (refine (vF_g rfl rfl).trans ?_; refine (veq (x := 0) (y := 0) rfl).trans ?_))
    (first | (refine (vbnd_0 v_fail9).trans ?_) | (refine (vF_g rfl rfl).trans ?_; refine (vF_g rfl rfl).trans ?_; refine (vbnd_0 v_fail9).trans ?_) | (refine (vF_g rfl rfl).trans ?_; refine (vbnd_0 v_fail9).trans ?_))
    (first | (exact rfl) | (refine (vF_g rfl rfl).trans ?_; refine (vF_g rfl rfl).trans ?_; exact rfl) | (refine (vF_g rfl rfl).trans ?_; refine (vF_g rfl rfl).trans ?_; refine (vF_g rfl rfl).trans ?_; exact rfl) | (refine (vF_g rfl rfl).trans ?_; exact rfl))
  · refine vM_go rfl rfl rfl rfl fun F hF => (key h F).trans ?_
    (first | (refine (veq (e5.trans h2)).trans ?_) | (refine (vF_g rfl rfl).trans ?_; refine (vF_g rfl rfl).trans ?_; refine (veq (e5.trans h2)).trans ?_) | (refine (vF_g rfl rfl).trans ?_; refine (veq (e5.trans h2)).trans ?_))
    (first | (refine (vbnd_0 v_fail9).trans ?_) | (refine (vF_g rfl rfl).trans ?_; refine (vF_g rfl rfl).trans ?_; refine (vbnd_0 v_fail9).trans ?_) | (refine (vF_g rfl rfl).trans ?_; refine (vbnd_0 v_fail9).trans ?_))
    (first | (refine (veq (x := 0) (y := 0) rfl).trans ?_) | (refine (vF_g rfl rfl).trans ?_; refine (vF_g rfl rfl).trans ?_; refine (veq (x := 0) (y := 0) rfl).trans ?_) | (refine (vF_g rfl rfl).trans ?_; refine (veq (x := 0) (y := 0) rfl).trans ?_))
    (first | (exact rfl) | (refine (vF_g rfl rfl).trans ?_; refine (vF_g rfl rfl).trans ?_; exact rfl) | (refine (vF_g rfl rfl).trans ?_; refine (vF_g rfl rfl).trans ?_; refine (vF_g rfl rfl).trans ?_; exact rfl) | (refine (vF_g rfl rfl).trans ?_; exact rfl))
  · have hl : fidx N (pkr (tN T p)) c 0 < 4294967296 := by
      rcases fidx_lt (g := N) (x := pkr (tN T p)) c 0 with q | ⟨_, q, _⟩ <;> omega
    refine vM_go rfl rfl rfl rfl fun F hF => (key h F).trans ?_
    (first | (refine (vne (by rw [e5]; exact hl) (by decide) (by rw [e5]; exact h2)).trans ?_) | (refine (vF_g rfl rfl).trans ?_; refine (vF_g rfl rfl).trans ?_; refine (vne (by rw [e5]; exact hl) (by decide) (by rw [e5]; exact h2)).trans ?_) | (refine (vF_g rfl rfl).trans ?_; refine (vne (by rw [e5]; exact hl) (by decide) (by rw [e5]; exact h2)).trans ?_))
    (first | (exact rfl) | (refine (vF_g rfl rfl).trans ?_; refine (vF_g rfl rfl).trans ?_; exact rfl) | (refine (vF_g rfl rfl).trans ?_; refine (vF_g rfl rfl).trans ?_; refine (vF_g rfl rfl).trans ?_; exact rfl) | (refine (vF_g rfl rfl).trans ?_; exact rfl))
section CMD
variable {B : Vw} {n : Nat} {T N : Nat → Nat} {c : Nat} {M : Nat → Nat} {d : Nat}
theorem p_itE {D p i : Nat} {f : Vw} (hB : CB B n T N c M d) (h : PSm B n p i f) : (¬ nOK T p → ∃ g, vM MT0 (D + 4) 57 [vR 446, vR 7] f = some ((0, 0), vI 0, g) ∧ PEm B 1 (tS T p) g ∧ g 448 4 = i) ∧ (nOK T p → fidx N (pkr (tN T p)) c 0 = 4294967295 → ∃ g, vM MT0 (D + 4) 57 [vR 446, vR 7] f = some ((0, 0), vI 0, g) ∧ PEm B 3 (tS T p) g ∧ g 448 4 = i) ∧ (nOK T p → fidx N (pkr (tN T p)) c 0 ≠ 4294967295 → ∃ g, vM MT0 (D + 4) 57 [vR 446, vR 7] f = some ((0, 0), vI 1, g) ∧ PSm B n (tE T p) i g) := by
  obtain ⟨w1, w2, w3⟩ := v_takeEcho7L (D := D) (N := N) (c := c) (om_tx h.1 hB.1) h.2.1 h.2.2.1 ((h.1 7 2 (by decide) (Or.inl (by decide))).trans hB.2.1) hB.2.2.1 (fun j hj => ⟨(congrArg lsg (h.1 (10 + j) 0 (by have := hB.2.2.1; omega) (Or.inl (by have := hB.2.2.1; omega)))).trans (hB.2.2.2.1 j hj).1, (hB.2.2.2.1 j hj).2⟩)
  have k4 : tk9 f T p 448 4 = i := (tk9_o (by decide)).trans h.2.2.2.1
  refine ⟨fun a => ⟨_, w1 a, pe_fl (om_tk h.1) tkq_3, (fl_o9 (by decide)).trans k4⟩, fun a b => ⟨_, w2 a b, pe_fl (om_up (om_tk h.1) (Or.inl rfl)) ((vup_ne (Or.inr (by decide))).trans tkq_3), (fl_o9 (by decide)).trans ((vup_ne (Or.inl (by decide))).trans k4)⟩, fun a b => ⟨_, w3 a b, ps_up5 (ps_tk h hB.1)⟩⟩
theorem p_itV {D p i : Nat} {f : Vw} (hB : CB B n T N c M d) (h : PSm B n p i f) : (¬ nOK T p → ∃ g, vM MT0 (D + 4) 58 [vR 446, vR 7] f = some ((0, 0), vI 0, g) ∧ PEm B 1 (tS T p) g ∧ g 448 4 = i) ∧ (nOK T p → fidx M (pkr (tN T p)) d 0 = 4294967295 → ∃ g, vM MT0 (D + 4) 58 [vR 446, vR 7] f = some ((0, 0), vI 0, g) ∧ PEm B 3 (tS T p) g ∧ g 448 4 = i) ∧ (nOK T p → fidx M (pkr (tN T p)) d 0 ≠ 4294967295 → ∃ g, vM MT0 (D + 4) 58 [vR 446, vR 7] f = some ((0, 0), vI 1, g) ∧ PSm B n (tE T p) i g) := by
  obtain ⟨w1, w2, w3⟩ := v_takeValley7L (D := D) (N := M) (c := d) (om_tx h.1 hB.1) h.2.1 h.2.2.1 ((h.1 7 3 (by decide) (Or.inl (by decide))).trans hB.2.2.2.2.1) hB.2.2.2.2.2.1 (fun j hj => ⟨(congrArg lsg (h.1 (22 + 3 * j) 0 (by have := hB.2.2.2.2.2.1; omega) (Or.inl (by have := hB.2.2.2.2.2.1; omega)))).trans (hB.2.2.2.2.2.2 j hj).1, (hB.2.2.2.2.2.2 j hj).2⟩)
  have k4 : tk9 f T p 448 4 = i := (tk9_o (by decide)).trans h.2.2.2.1
  refine ⟨fun a => ⟨_, w1 a, pe_fl (om_tk h.1) tkq_3, (fl_o9 (by decide)).trans k4⟩, fun a b => ⟨_, w2 a b, pe_fl (om_up (om_tk h.1) (Or.inl rfl)) ((vup_ne (Or.inr (by decide))).trans tkq_3), (fl_o9 (by decide)).trans ((vup_ne (Or.inl (by decide))).trans k4)⟩, fun a b => ⟨_, w3 a b, ps_up5 (ps_tk h hB.1)⟩⟩
theorem p_semi {D p i : Nat} {f : Vw} (hB : CB B n T N c M d) (h : PSm B n p i f) : (tK T p = 3 → ∃ g, vM MT0 (D + 3) 52 [vR 446] f = some ((0, 0), vI 1, g) ∧ PSm B n (tE T p) i g) ∧ (tK T p ≠ 3 → ∃ g, vM MT0 (D + 3) 52 [vR 446] f = some ((0, 0), vI 0, g) ∧ PEm B 1 (tS T p) g) := by
  obtain ⟨w1, w2⟩ := v_takeSemi (D := D) (om_tx h.1 hB.1) h.2.1 h.2.2.1
  exact ⟨fun q => ⟨_, w1 q, ps_tk h hB.1⟩, fun q => ⟨_, w2 q, pe_fl (om_tk h.1) tkq_3⟩⟩
theorem v_verbRead {D p : Nat} {g : Vw} (hx : TxC g n T) (hp : p ≤ n) (g2 : g 446 2 = tK T p) (g3 : g 446 3 = tS T p) (g4 : g 446 4 = tE T p - tS T p) : vM MT0 (D + 3) 8 [vR 448] g = some ((0, 0), vI (oVb T p 7 20), g) := by
  obtain ⟨y0, n0⟩ := v_wordIs9 (D := D) (w := 20) (f := g) (by decide) (by decide) hx hp g2 g3 g4
  obtain ⟨y1, n1⟩ := v_wordIs9 (D := D) (w := 21) (f := g) (by decide) (by decide) hx hp g2 g3 g4
  obtain ⟨y2, n2⟩ := v_wordIs9 (D := D) (w := 22) (f := g) (by decide) (by decide) hx hp g2 g3 g4
  obtain ⟨y3, n3⟩ := v_wordIs9 (D := D) (w := 23) (f := g) (by decide) (by decide) hx hp g2 g3 g4
  obtain ⟨y4, n4⟩ := v_wordIs9 (D := D) (w := 24) (f := g) (by decide) (by decide) hx hp g2 g3 g4
  obtain ⟨y5, n5⟩ := v_wordIs9 (D := D) (w := 25) (f := g) (by decide) (by decide) hx hp g2 g3 g4
  obtain ⟨y6, n6⟩ := v_wordIs9 (D := D) (w := 26) (f := g) (by decide) (by decide) hx hp g2 g3 g4
  by_cases h0 : wOKc T 20 p
  · rw [oVb_y h0]
    refine vM_go rfl rfl rfl rfl fun F hF => ?_
    (first | (refine (vbnd_0 (y0 h0)).trans ?_) | (refine (vF_g rfl rfl).trans ?_; refine (vF_g rfl rfl).trans ?_; refine (vbnd_0 (y0 h0)).trans ?_) | (refine (vF_g rfl rfl).trans ?_; refine (vbnd_0 (y0 h0)).trans ?_))
    (first | (refine (vgt (x := 1) (y := 0) (by decide) (by decide)).trans ?_) | (refine (vF_g rfl rfl).trans ?_; refine (vF_g rfl rfl).trans ?_; refine (vgt (x := 1) (y := 0) (by decide) (by decide)).trans ?_) | (refine (vF_g rfl rfl).trans ?_; refine (vgt (x := 1) (y := 0) (by decide) (by decide)).trans ?_))
    (first | (exact rfl) | (refine (vF_g rfl rfl).trans ?_; refine (vF_g rfl rfl).trans ?_; exact rfl) | (refine (vF_g rfl rfl).trans ?_; refine (vF_g rfl rfl).trans ?_; refine (vF_g rfl rfl).trans ?_; exact rfl) | (refine (vF_g rfl rfl).trans ?_; exact rfl))
  · skip
    by_cases h1 : wOKc T 21 p
    · rw [oVb_n h0, oVb_y h1]
      refine vM_go rfl rfl rfl rfl fun F hF => ?_
      (first | (refine (vbnd_0 (n0 h0)).trans ?_) | (refine (vF_g rfl rfl).trans ?_; refine (vF_g rfl rfl).trans ?_; refine (vbnd_0 (n0 h0)).trans ?_) | (refine (vF_g rfl rfl).trans ?_; refine (vbnd_0 (n0 h0)).trans ?_))
      (first | (refine (veq (x := 0) (y := 0) rfl).trans ?_) | (refine (vF_g rfl rfl).trans ?_; refine (vF_g rfl rfl).trans ?_; refine (veq (x := 0) (y := 0) rfl).trans ?_) | (refine (vF_g rfl rfl).trans ?_; refine (veq (x := 0) (y := 0) rfl).trans ?_))
      (first | (refine (vbnd_0 (y1 h1)).trans ?_) | (refine (vF_g rfl rfl).trans ?_; refine (vF_g rfl rfl).trans ?_; refine (vbnd_0 (y1 h1)).trans ?_) | (refine (vF_g rfl rfl).trans ?_; refine (vbnd_0 (y1 h1)).trans ?_))
      (first | (refine (vgt (x := 1) (y := 0) (by decide) (by decide)).trans ?_) | (refine (vF_g rfl rfl).trans ?_; refine (vF_g rfl rfl).trans ?_; refine (vgt (x := 1) (y := 0) (by decide) (by decide)).trans ?_) | (refine (vF_g rfl rfl).trans ?_; refine (vgt (x := 1) (y := 0) (by decide) (by decide)).trans ?_))
      (first | (exact rfl) | (refine (vF_g rfl rfl).trans ?_; refine (vF_g rfl rfl).trans ?_; exact rfl) | (refine (vF_g rfl rfl).trans ?_; refine (vF_g rfl rfl).trans ?_; refine (vF_g rfl rfl).trans ?_; exact rfl) | (refine (vF_g rfl rfl).trans ?_; exact rfl))
    · skip
      by_cases h2 : wOKc T 22 p
      · rw [oVb_n h0, oVb_n h1, oVb_y h2]
        refine vM_go rfl rfl rfl rfl fun F hF => ?_
        (first | (refine (vbnd_0 (n0 h0)).trans ?_) | (refine (vF_g rfl rfl).trans ?_; refine (vF_g rfl rfl).trans ?_; refine (vbnd_0 (n0 h0)).trans ?_) | (refine (vF_g rfl rfl).trans ?_; refine (vbnd_0 (n0 h0)).trans ?_))
        (first | (refine (veq (x := 0) (y := 0) rfl).trans ?_) | (refine (vF_g rfl rfl).trans ?_; refine (vF_g rfl rfl).trans ?_; refine (veq (x := 0) (y := 0) rfl).trans ?_) | (refine (vF_g rfl rfl).trans ?_; refine (veq (x := 0) (y := 0) rfl).trans ?_))
        (first | (refine (vbnd_0 (n1 h1)).trans ?_) | (refine (vF_g rfl rfl).trans ?_; refine (vF_g rfl rfl).trans ?_; refine (vbnd_0 (n1 h1)).trans ?_) | (refine (vF_g rfl rfl).trans ?_; refine (vbnd_0 (n1 h1)).trans ?_))
        (first | (refine (veq (x := 0) (y := 0) rfl).trans ?_) | (refine (vF_g rfl rfl).trans ?_; refine (vF_g rfl rfl).trans ?_; refine (veq (x := 0) (y := 0) rfl).trans ?_) | (refine (vF_g rfl rfl).trans ?_; refine (veq (x := 0) (y := 0) rfl).trans ?_))
        (first | (refine (vbnd_0 (y2 h2)).trans ?_) | (refine (vF_g rfl rfl).trans ?_; refine (vF_g rfl rfl).trans ?_; refine (vbnd_0 (y2 h2)).trans ?_) | (refine (vF_g rfl rfl).trans ?_; refine (vbnd_0 (y2 h2)).trans ?_))
        (first | (refine (vgt (x := 1) (y := 0) (by decide) (by decide)).trans ?_) | (refine (vF_g rfl rfl).trans ?_; refine (vF_g rfl rfl).trans ?_; refine (vgt (x := 1) (y := 0) (by decide) (by decide)).trans ?_) | (refine (vF_g rfl rfl).trans ?_; refine (vgt (x := 1) (y := 0) (by decide) (by decide)).trans ?_))
        (first | (exact rfl) | (refine (vF_g rfl rfl).trans ?_; refine (vF_g rfl rfl).trans ?_; exact rfl) | (refine (vF_g rfl rfl).trans ?_; refine (vF_g rfl rfl).trans ?_; refine (vF_g rfl rfl).trans ?_; exact rfl) | (refine (vF_g rfl rfl).trans ?_; exact rfl))
      · skip
        by_cases h3 : wOKc T 23 p
        · rw [oVb_n h0, oVb_n h1, oVb_n h2, oVb_y h3]
          refine vM_go rfl rfl rfl rfl fun F hF => ?_
          (first | (refine (vbnd_0 (n0 h0)).trans ?_) | (refine (vF_g rfl rfl).trans ?_; refine (vF_g rfl rfl).trans ?_; refine (vbnd_0 (n0 h0)).trans ?_) | (refine (vF_g rfl rfl).trans ?_; refine (vbnd_0 (n0 h0)).trans ?_))
          (first | (refine (veq (x := 0) (y := 0) rfl).trans ?_) | (refine (vF_g rfl rfl).trans ?_; refine (vF_g rfl rfl).trans ?_; refine (veq (x := 0) (y := 0) rfl).trans ?_) | (refine (vF_g rfl rfl).trans ?_; refine (veq (x := 0) (y := 0) rfl).trans ?_))
          (first | (refine (vbnd_0 (n1 h1)).trans ?_) | (refine (vF_g rfl rfl).trans ?_; refine (vF_g rfl rfl).trans ?_; refine (vbnd_0 (n1 h1)).trans ?_) | (refine (vF_g rfl rfl).trans ?_; refine (vbnd_0 (n1 h1)).trans ?_))
          (first | (refine (veq (x := 0) (y := 0) rfl).trans ?_) | (refine (vF_g rfl rfl).trans ?_; refine (vF_g rfl rfl).trans ?_; refine (veq (x := 0) (y := 0) rfl).trans ?_) | (refine (vF_g rfl rfl).trans ?_; refine (veq (x := 0) (y := 0) rfl).trans ?_))
          (first | (refine (vbnd_0 (n2 h2)).trans ?_) | (refine (vF_g rfl rfl).trans ?_; refine (vF_g rfl rfl).trans ?_; refine (vbnd_0 (n2 h2)).trans ?_) | (refine (vF_g rfl rfl).trans ?_; refine (vbnd_0 (n2 h2)).trans ?_))
          (first | (refine (veq (x := 0) (y := 0) rfl).trans ?_) | (refine (vF_g rfl rfl).trans ?_; refine (vF_g rfl rfl).trans ?_; refine (veq (x := 0) (y := 0) rfl).trans ?_) | (refine (vF_g rfl rfl).trans ?_; refine (veq (x := 0) (y := 0) rfl).trans ?_))
          (first | (refine (vbnd_0 (y3 h3)).trans ?_) | (refine (vF_g rfl rfl).trans ?_; refine (vF_g rfl rfl).trans ?_; refine (vbnd_0 (y3 h3)).trans ?_) | (refine (vF_g rfl rfl).trans ?_; refine (vbnd_0 (y3 h3)).trans ?_))
          (first | (refine (vgt (x := 1) (y := 0) (by decide) (by decide)).trans ?_) | (refine (vF_g rfl rfl).trans ?_; refine (vF_g rfl rfl).trans ?_; refine (vgt (x := 1) (y := 0) (by decide) (by decide)).trans ?_) | (refine (vF_g rfl rfl).trans ?_; refine (vgt (x := 1) (y := 0) (by decide) (by decide)).trans ?_))
          (first | (exact rfl) | (refine (vF_g rfl rfl).trans ?_; refine (vF_g rfl rfl).trans ?_; exact rfl) | (refine (vF_g rfl rfl).trans ?_; refine (vF_g rfl rfl).trans ?_; refine (vF_g rfl rfl).trans ?_; exact rfl) | (refine (vF_g rfl rfl).trans ?_; exact rfl))
        · skip
          by_cases h4 : wOKc T 24 p
          · rw [oVb_n h0, oVb_n h1, oVb_n h2, oVb_n h3, oVb_y h4]
            refine vM_go rfl rfl rfl rfl fun F hF => ?_
            (first | (refine (vbnd_0 (n0 h0)).trans ?_) | (refine (vF_g rfl rfl).trans ?_; refine (vF_g rfl rfl).trans ?_; refine (vbnd_0 (n0 h0)).trans ?_) | (refine (vF_g rfl rfl).trans ?_; refine (vbnd_0 (n0 h0)).trans ?_))
            (first | (refine (veq (x := 0) (y := 0) rfl).trans ?_) | (refine (vF_g rfl rfl).trans ?_; refine (vF_g rfl rfl).trans ?_; refine (veq (x := 0) (y := 0) rfl).trans ?_) | (refine (vF_g rfl rfl).trans ?_; refine (veq (x := 0) (y := 0) rfl).trans ?_))
            (first | (refine (vbnd_0 (n1 h1)).trans ?_) | (refine (vF_g rfl rfl).trans ?_; refine (vF_g rfl rfl).trans ?_; refine (vbnd_0 (n1 h1)).trans ?_) | (refine (vF_g rfl rfl).trans ?_; refine (vbnd_0 (n1 h1)).trans ?_))
            (first | (refine (veq (x := 0) (y := 0) rfl).trans ?_) | (refine (vF_g rfl rfl).trans ?_; refine (vF_g rfl rfl).trans ?_; refine (veq (x := 0) (y := 0) rfl).trans ?_) | (refine (vF_g rfl rfl).trans ?_; refine (veq (x := 0) (y := 0) rfl).trans ?_))
            (first | (refine (vbnd_0 (n2 h2)).trans ?_) | (refine (vF_g rfl rfl).trans ?_; refine (vF_g rfl rfl).trans ?_; refine (vbnd_0 (n2 h2)).trans ?_) | (refine (vF_g rfl rfl).trans ?_; refine (vbnd_0 (n2 h2)).trans ?_))
            (first | (refine (veq (x := 0) (y := 0) rfl).trans ?_) | (refine (vF_g rfl rfl).trans ?_; refine (vF_g rfl rfl).trans ?_; refine (veq (x := 0) (y := 0) rfl).trans ?_) | (refine (vF_g rfl rfl).trans ?_; refine (veq (x := 0) (y := 0) rfl).trans ?_))
            (first | (refine (vbnd_0 (n3 h3)).trans ?_) | (refine (vF_g rfl rfl).trans ?_; refine (vF_g rfl rfl).trans ?_; refine (vbnd_0 (n3 h3)).trans ?_) | (refine (vF_g rfl rfl).trans ?_; refine (vbnd_0 (n3 h3)).trans ?_))
            (first | (refine (veq (x := 0) (y := 0) rfl).trans ?_) | (refine (vF_g rfl rfl).trans ?_; refine (vF_g rfl rfl).trans ?_; refine (veq (x := 0) (y := 0) rfl).trans ?_) | (refine (vF_g rfl rfl).trans ?_; refine (veq (x := 0) (y := 0) rfl).trans ?_))
            (first | (refine (vbnd_0 (y4 h4)).trans ?_) | (refine (vF_g rfl rfl).trans ?_; refine (vF_g rfl rfl).trans ?_; refine (vbnd_0 (y4 h4)).trans ?_) | (refine (vF_g rfl rfl).trans ?_; refine (vbnd_0 (y4 h4)).trans ?_))
            (first | (refine (vgt (x := 1) (y := 0) (by decide) (by decide)).trans ?_) | (refine (vF_g rfl rfl).trans ?_; refine (vF_g rfl rfl).trans ?_; refine (vgt (x := 1) (y := 0) (by decide) (by decide)).trans ?_) | (refine (vF_g rfl rfl).trans ?_; refine (vgt (x := 1) (y := 0) (by decide) (by decide)).trans ?_))
            (first | (exact rfl) | (refine (vF_g rfl rfl).trans ?_; refine (vF_g rfl rfl).trans ?_; exact rfl) | (refine (vF_g rfl rfl).trans ?_; refine (vF_g rfl rfl).trans ?_; refine (vF_g rfl rfl).trans ?_; exact rfl) | (refine (vF_g rfl rfl).trans ?_; exact rfl))
          · skip
            by_cases h5 : wOKc T 25 p
            · rw [oVb_n h0, oVb_n h1, oVb_n h2, oVb_n h3, oVb_n h4, oVb_y h5]
              refine vM_go rfl rfl rfl rfl fun F hF => ?_
              (first | (refine (vbnd_0 (n0 h0)).trans ?_) | (refine (vF_g rfl rfl).trans ?_; refine (vF_g rfl rfl).trans ?_; refine (vbnd_0 (n0 h0)).trans ?_) | (refine (vF_g rfl rfl).trans ?_; refine (vbnd_0 (n0 h0)).trans ?_))
              (first | (refine (veq (x := 0) (y := 0) rfl).trans ?_) | (refine (vF_g rfl rfl).trans ?_; refine (vF_g rfl rfl).trans ?_; refine (veq (x := 0) (y := 0) rfl).trans ?_) | (refine (vF_g rfl rfl).trans ?_; refine (veq (x := 0) (y := 0) rfl).trans ?_))
              (first | (refine (vbnd_0 (n1 h1)).trans ?_) | (refine (vF_g rfl rfl).trans ?_; refine (vF_g rfl rfl).trans ?_; refine (vbnd_0 (n1 h1)).trans ?_) | (refine (vF_g rfl rfl).trans ?_; refine (vbnd_0 (n1 h1)).trans ?_))
              (first | (refine (veq (x := 0) (y := 0) rfl).trans ?_) | (refine (vF_g rfl rfl).trans ?_; refine (vF_g rfl rfl).trans ?_; refine (veq (x := 0) (y := 0) rfl).trans ?_) | (refine (vF_g rfl rfl).trans ?_; refine (veq (x := 0) (y := 0) rfl).trans ?_))
              (first | (refine (vbnd_0 (n2 h2)).trans ?_) | (refine (vF_g rfl rfl).trans ?_; refine (vF_g rfl rfl).trans ?_; refine (vbnd_0 (n2 h2)).trans ?_) | (refine (vF_g rfl rfl).trans ?_; refine (vbnd_0 (n2 h2)).trans ?_))
              (first | (refine (veq (x := 0) (y := 0) rfl).trans ?_) | (refine (vF_g rfl rfl).trans ?_; refine (vF_g rfl rfl).trans ?_; refine (veq (x := 0) (y := 0) rfl).trans ?_) | (refine (vF_g rfl rfl).trans ?_; refine (veq (x := 0) (y := 0) rfl).trans ?_))
              (first | (refine (vbnd_0 (n3 h3)).trans ?_) | (refine (vF_g rfl rfl).trans ?_; refine (vF_g rfl rfl).trans ?_; refine (vbnd_0 (n3 h3)).trans ?_) | (refine (vF_g rfl rfl).trans ?_; refine (vbnd_0 (n3 h3)).trans ?_))
              (first | (refine (veq (x := 0) (y := 0) rfl).trans ?_) | (refine (vF_g rfl rfl).trans ?_; refine (vF_g rfl rfl).trans ?_; refine (veq (x := 0) (y := 0) rfl).trans ?_) | (refine (vF_g rfl rfl).trans ?_; refine (veq (x := 0) (y := 0) rfl).trans ?_))
              (first | (refine (vbnd_0 (n4 h4)).trans ?_) | (refine (vF_g rfl rfl).trans ?_; refine (vF_g rfl rfl).trans ?_; refine (vbnd_0 (n4 h4)).trans ?_) | (refine (vF_g rfl rfl).trans ?_; refine (vbnd_0 (n4 h4)).trans ?_))
              (first | (refine (veq (x := 0) (y := 0) rfl).trans ?_) | (refine (vF_g rfl rfl).trans ?_; refine (vF_g rfl rfl).trans ?_; refine (veq (x := 0) (y := 0) rfl).trans ?_) | (refine (vF_g rfl rfl).trans ?_; refine (veq (x := 0) (y := 0) rfl).trans ?_))
              (first | (refine (vbnd_0 (y5 h5)).trans ?_) | (refine (vF_g rfl rfl).trans ?_; refine (vF_g rfl rfl).trans ?_; refine (vbnd_0 (y5 h5)).trans ?_) | (refine (vF_g rfl rfl).trans ?_; refine (vbnd_0 (y5 h5)).trans ?_))
              (first | (refine (vgt (x := 1) (y := 0) (by decide) (by decide)).trans ?_) | (refine (vF_g rfl rfl).trans ?_; refine (vF_g rfl rfl).trans ?_; refine (vgt (x := 1) (y := 0) (by decide) (by decide)).trans ?_) | (refine (vF_g rfl rfl).trans ?_; refine (vgt (x := 1) (y := 0) (by decide) (by decide)).trans ?_))
              (first | (exact rfl) | (refine (vF_g rfl rfl).trans ?_; refine (vF_g rfl rfl).trans ?_; exact rfl) | (refine (vF_g rfl rfl).trans ?_; refine (vF_g rfl rfl).trans ?_; refine (vF_g rfl rfl).trans ?_; exact rfl) | (refine (vF_g rfl rfl).trans ?_; exact rfl))
            · skip
              by_cases h6 : wOKc T 26 p
              · rw [oVb_n h0, oVb_n h1, oVb_n h2, oVb_n h3, oVb_n h4, oVb_n h5, oVb_y h6]
                refine vM_go rfl rfl rfl rfl fun F hF => ?_
                (first | (refine (vbnd_0 (n0 h0)).trans ?_) | (refine (vF_g rfl rfl).trans ?_; refine (vF_g rfl rfl).trans ?_; refine (vbnd_0 (n0 h0)).trans ?_) | (refine (vF_g rfl rfl).trans ?_; refine (vbnd_0 (n0 h0)).trans ?_))
                (first | (refine (veq (x := 0) (y := 0) rfl).trans ?_) | (refine (vF_g rfl rfl).trans ?_; refine (vF_g rfl rfl).trans ?_; refine (veq (x := 0) (y := 0) rfl).trans ?_) | (refine (vF_g rfl rfl).trans ?_; refine (veq (x := 0) (y := 0) rfl).trans ?_))
                (first | (refine (vbnd_0 (n1 h1)).trans ?_) | (refine (vF_g rfl rfl).trans ?_; refine (vF_g rfl rfl).trans ?_; refine (vbnd_0 (n1 h1)).trans ?_) | (refine (vF_g rfl rfl).trans ?_; refine (vbnd_0 (n1 h1)).trans ?_))
                (first | (refine (veq (x := 0) (y := 0) rfl).trans ?_) | (refine (vF_g rfl rfl).trans ?_; refine (vF_g rfl rfl).trans ?_; refine (veq (x := 0) (y := 0) rfl).trans ?_) | (refine (vF_g rfl rfl).trans ?_; refine (veq (x := 0) (y := 0) rfl).trans ?_))
                (first | (refine (vbnd_0 (n2 h2)).trans ?_) | (refine (vF_g rfl rfl).trans ?_; refine (vF_g rfl rfl).trans ?_; refine (vbnd_0 (n2 h2)).trans ?_) | (refine (vF_g rfl rfl).trans ?_; refine (vbnd_0 (n2 h2)).trans ?_))
                (first | (refine (veq (x := 0) (y := 0) rfl).trans ?_) | (refine (vF_g rfl rfl).trans ?_; refine (vF_g rfl rfl).trans ?_; refine (veq (x := 0) (y := 0) rfl).trans ?_) | (refine (vF_g rfl rfl).trans ?_; refine (veq (x := 0) (y := 0) rfl).trans ?_))
                (first | (refine (vbnd_0 (n3 h3)).trans ?_) | (refine (vF_g rfl rfl).trans ?_; refine (vF_g rfl rfl).trans ?_; refine (vbnd_0 (n3 h3)).trans ?_) | (refine (vF_g rfl rfl).trans ?_; refine (vbnd_0 (n3 h3)).trans ?_))
                (first | (refine (veq (x := 0) (y := 0) rfl).trans ?_) | (refine (vF_g rfl rfl).trans ?_; refine (vF_g rfl rfl).trans ?_; refine (veq (x := 0) (y := 0) rfl).trans ?_) | (refine (vF_g rfl rfl).trans ?_; refine (veq (x := 0) (y := 0) rfl).trans ?_))
                (first | (refine (vbnd_0 (n4 h4)).trans ?_) | (refine (vF_g rfl rfl).trans ?_; refine (vF_g rfl rfl).trans ?_; refine (vbnd_0 (n4 h4)).trans ?_) | (refine (vF_g rfl rfl).trans ?_; refine (vbnd_0 (n4 h4)).trans ?_))
                (first | (refine (veq (x := 0) (y := 0) rfl).trans ?_) | (refine (vF_g rfl rfl).trans ?_; refine (vF_g rfl rfl).trans ?_; refine (veq (x := 0) (y := 0) rfl).trans ?_) | (refine (vF_g rfl rfl).trans ?_; refine (veq (x := 0) (y := 0) rfl).trans ?_))
                (first | (refine (vbnd_0 (n5 h5)).trans ?_) | (refine (vF_g rfl rfl).trans ?_; refine (vF_g rfl rfl).trans ?_; refine (vbnd_0 (n5 h5)).trans ?_) | (refine (vF_g rfl rfl).trans ?_; refine (vbnd_0 (n5 h5)).trans ?_))
                (first | (refine (veq (x := 0) (y := 0) rfl).trans ?_) | (refine (vF_g rfl rfl).trans ?_; refine (vF_g rfl rfl).trans ?_; refine (veq (x := 0) (y := 0) rfl).trans ?_) | (refine (vF_g rfl rfl).trans ?_; refine (veq (x := 0) (y := 0) rfl).trans ?_))
                (first | (refine (vbnd_0 (y6 h6)).trans ?_) | (refine (vF_g rfl rfl).trans ?_; refine (vF_g rfl rfl).trans ?_; refine (vbnd_0 (y6 h6)).trans ?_) | (refine (vF_g rfl rfl).trans ?_; refine (vbnd_0 (y6 h6)).trans ?_))
                (first | (refine (vgt (x := 1) (y := 0) (by decide) (by decide)).trans ?_) | (refine (vF_g rfl rfl).trans ?_; refine (vF_g rfl rfl).trans ?_; refine (vgt (x := 1) (y := 0) (by decide) (by decide)).trans ?_) | (refine (vF_g rfl rfl).trans ?_; refine (vgt (x := 1) (y := 0) (by decide) (by decide)).trans ?_))
                (first | (exact rfl) | (refine (vF_g rfl rfl).trans ?_; refine (vF_g rfl rfl).trans ?_; exact rfl) | (refine (vF_g rfl rfl).trans ?_; refine (vF_g rfl rfl).trans ?_; refine (vF_g rfl rfl).trans ?_; exact rfl) | (refine (vF_g rfl rfl).trans ?_; exact rfl))
              · rw [oVb_n h0, oVb_n h1, oVb_n h2, oVb_n h3, oVb_n h4, oVb_n h5, oVb_n h6, show oVb T p 0 27 = 4294967295 from rfl]
                refine vM_go rfl rfl rfl rfl fun F hF => ?_
                (first | (refine (vbnd_0 (n0 h0)).trans ?_) | (refine (vF_g rfl rfl).trans ?_; refine (vF_g rfl rfl).trans ?_; refine (vbnd_0 (n0 h0)).trans ?_) | (refine (vF_g rfl rfl).trans ?_; refine (vbnd_0 (n0 h0)).trans ?_))
                (first | (refine (veq (x := 0) (y := 0) rfl).trans ?_) | (refine (vF_g rfl rfl).trans ?_; refine (vF_g rfl rfl).trans ?_; refine (veq (x := 0) (y := 0) rfl).trans ?_) | (refine (vF_g rfl rfl).trans ?_; refine (veq (x := 0) (y := 0) rfl).trans ?_))
                (first | (refine (vbnd_0 (n1 h1)).trans ?_) | (refine (vF_g rfl rfl).trans ?_; refine (vF_g rfl rfl).trans ?_; refine (vbnd_0 (n1 h1)).trans ?_) | (refine (vF_g rfl rfl).trans ?_; refine (vbnd_0 (n1 h1)).trans ?_))
                (first | (refine (veq (x := 0) (y := 0) rfl).trans ?_) | (refine (vF_g rfl rfl).trans ?_; refine (vF_g rfl rfl).trans ?_; refine (veq (x := 0) (y := 0) rfl).trans ?_) | (refine (vF_g rfl rfl).trans ?_; refine (veq (x := 0) (y := 0) rfl).trans ?_))
                (first | (refine (vbnd_0 (n2 h2)).trans ?_) | (refine (vF_g rfl rfl).trans ?_; refine (vF_g rfl rfl).trans ?_; refine (vbnd_0 (n2 h2)).trans ?_) | (refine (vF_g rfl rfl).trans ?_; refine (vbnd_0 (n2 h2)).trans ?_))
                (first | (refine (veq (x := 0) (y := 0) rfl).trans ?_) | (refine (vF_g rfl rfl).trans ?_; refine (vF_g rfl rfl).trans ?_; refine (veq (x := 0) (y := 0) rfl).trans ?_) | (refine (vF_g rfl rfl).trans ?_; refine (veq (x := 0) (y := 0) rfl).trans ?_))
                (first | (refine (vbnd_0 (n3 h3)).trans ?_) | (refine (vF_g rfl rfl).trans ?_; refine (vF_g rfl rfl).trans ?_; refine (vbnd_0 (n3 h3)).trans ?_) | (refine (vF_g rfl rfl).trans ?_; refine (vbnd_0 (n3 h3)).trans ?_))
                (first | (refine (veq (x := 0) (y := 0) rfl).trans ?_) | (refine (vF_g rfl rfl).trans ?_; refine (vF_g rfl rfl).trans ?_; refine (veq (x := 0) (y := 0) rfl).trans ?_) | (refine (vF_g rfl rfl).trans ?_; refine (veq (x := 0) (y := 0) rfl).trans ?_))
                (first | (refine (vbnd_0 (n4 h4)).trans ?_) | (refine (vF_g rfl rfl).trans ?_; refine (vF_g rfl rfl).trans ?_; refine (vbnd_0 (n4 h4)).trans ?_) | (refine (vF_g rfl rfl).trans ?_; refine (vbnd_0 (n4 h4)).trans ?_))
                (first | (refine (veq (x := 0) (y := 0) rfl).trans ?_) | (refine (vF_g rfl rfl).trans ?_; refine (vF_g rfl rfl).trans ?_; refine (veq (x := 0) (y := 0) rfl).trans ?_) | (refine (vF_g rfl rfl).trans ?_; refine (veq (x := 0) (y := 0) rfl).trans ?_))
                (first | (refine (vbnd_0 (n5 h5)).trans ?_) | (refine (vF_g rfl rfl).trans ?_; refine (vF_g rfl rfl).trans ?_; refine (vbnd_0 (n5 h5)).trans ?_) | (refine (vF_g rfl rfl).trans ?_; refine (vbnd_0 (n5 h5)).trans ?_))
                (first | (refine (veq (x := 0) (y := 0) rfl).trans ?_) | (refine (vF_g rfl rfl).trans ?_; refine (vF_g rfl rfl).trans ?_; refine (veq (x := 0) (y := 0) rfl).trans ?_) | (refine (vF_g rfl rfl).trans ?_; refine (veq (x := 0) (y := 0) rfl).trans ?_))
                (first | (refine (vbnd_0 (n6 h6)).trans ?_) | (refine (vF_g rfl rfl).trans ?_; refine (vF_g rfl rfl).trans ?_; refine (vbnd_0 (n6 h6)).trans ?_) | (refine (vF_g rfl rfl).trans ?_; refine (vbnd_0 (n6 h6)).trans ?_))
                (first | (refine (veq (x := 0) (y := 0) rfl).trans ?_) | (refine (vF_g rfl rfl).trans ?_; refine (vF_g rfl rfl).trans ?_; refine (veq (x := 0) (y := 0) rfl).trans ?_) | (refine (vF_g rfl rfl).trans ?_; refine (veq (x := 0) (y := 0) rfl).trans ?_))
                (first | (exact rfl) | (refine (vF_g rfl rfl).trans ?_; refine (vF_g rfl rfl).trans ?_; exact rfl) | (refine (vF_g rfl rfl).trans ?_; refine (vF_g rfl rfl).trans ?_; refine (vF_g rfl rfl).trans ?_; exact rfl) | (refine (vF_g rfl rfl).trans ?_; exact rfl))
theorem p_vm {D p i v : Nat} {f : Vw} (hB : CB B n T N c M d) (h : PSm B n p i f) (hi : i < 30) (hv : v = 2 ∨ v = 4 ∨ v = 5) : ((oArg T N c M d v p fun p => (0, p)).1 = 0 → ∃ g, vM MT0 (D + 5) 10 [vR 448, vI v, vR 7] f = some ((0, 0), vI 1, g) ∧ PSm B n (oArg T N c M d v p fun p => (0, p)).2 i g) ∧ ((oArg T N c M d v p fun p => (0, p)).1 ≠ 0 → ∃ g, vM MT0 (D + 5) 10 [vR 448, vI v, vR 7] f = some ((0, 0), vI 0, g) ∧ PEm B (oArg T N c M d v p fun p => (0, p)).1 (oArg T N c M d v p fun p => (0, p)).2 g) := by
  have ea : oArg T N c M d v p (fun p => (0, p)) = oIt T M d p (fun q => if v = 2 then oIt T N c q (fun p => (0, p)) else if v = 4 then oN T q 1 99 (fun p => (0, p)) else oN T q 1 999 (fun p => (0, p))) := by
    rcases hv with rfl | rfl | rfl
    · exact oArg_2
    · exact oArg_4
    · exact oArg_5
  obtain ⟨a1, a2, a3⟩ := p_itV (D := D) hB h
  by_cases k1 : nOK T p
  rotate_left
  · obtain ⟨g, e, hg, -⟩ := a1 k1
    rw [ea, oIt_2 k1]
    exact ⟨fun w => absurd w n01, fun _ => ⟨g, vM_go rfl rfl rfl rfl fun F hF => (by (first | (refine (vbnd_0 e).trans ?_) | (refine (vF_g rfl rfl).trans ?_; refine (vF_g rfl rfl).trans ?_; refine (vbnd_0 e).trans ?_) | (refine (vF_g rfl rfl).trans ?_; refine (vbnd_0 e).trans ?_)); (first | (refine (veq (x := 0) (y := 0) rfl).trans ?_) | (refine (vF_g rfl rfl).trans ?_; refine (vF_g rfl rfl).trans ?_; refine (veq (x := 0) (y := 0) rfl).trans ?_) | (refine (vF_g rfl rfl).trans ?_; refine (veq (x := 0) (y := 0) rfl).trans ?_)); (first | (exact rfl) | (refine (vF_g rfl rfl).trans ?_; refine (vF_g rfl rfl).trans ?_; exact rfl) | (refine (vF_g rfl rfl).trans ?_; refine (vF_g rfl rfl).trans ?_; refine (vF_g rfl rfl).trans ?_; exact rfl) | (refine (vF_g rfl rfl).trans ?_; exact rfl))), hg⟩⟩
  by_cases k2 : fidx M (pkr (tN T p)) d 0 = 4294967295
  · obtain ⟨g, e, hg, -⟩ := a2 k1 k2
    rw [ea, oIt_1 k1 k2]
    exact ⟨fun w => absurd w n31, fun _ => ⟨g, vM_go rfl rfl rfl rfl fun F hF => (by (first | (refine (vbnd_0 e).trans ?_) | (refine (vF_g rfl rfl).trans ?_; refine (vF_g rfl rfl).trans ?_; refine (vbnd_0 e).trans ?_) | (refine (vF_g rfl rfl).trans ?_; refine (vbnd_0 e).trans ?_)); (first | (refine (veq (x := 0) (y := 0) rfl).trans ?_) | (refine (vF_g rfl rfl).trans ?_; refine (vF_g rfl rfl).trans ?_; refine (veq (x := 0) (y := 0) rfl).trans ?_) | (refine (vF_g rfl rfl).trans ?_; refine (veq (x := 0) (y := 0) rfl).trans ?_)); (first | (exact rfl) | (refine (vF_g rfl rfl).trans ?_; refine (vF_g rfl rfl).trans ?_; exact rfl) | (refine (vF_g rfl rfl).trans ?_; refine (vF_g rfl rfl).trans ?_; refine (vF_g rfl rfl).trans ?_; exact rfl) | (refine (vF_g rfl rfl).trans ?_; exact rfl))), hg⟩⟩
  obtain ⟨g, e, hg⟩ := a3 k1 k2
  rw [ea, oIt_0 k1 k2]
  have hg4 : g 448 4 = i := hg.2.2.2.1
  have hg1 : PSm B n (tE T p) i (vup g 450 i (g 446 5)) := ps_ar hg ⟨by decide, by decide⟩
  obtain ⟨b1, b2, b3⟩ := p_itE (D := D) hB hg1
  have num : ∀ hi9, hi9 < 10000 → (nuC T (tE T p) 1 hi9 = 0 → ∃ g', vM MT0 (D + 4) 55 [vR 446, vI 1, vI hi9] (vup g 450 i (g 446 5)) = some ((0, 0), vI 1, g') ∧ PSm B n (tE T (tE T p)) i g') ∧ (nuC T (tE T p) 1 hi9 ≠ 0 → ∃ g', vM MT0 (D + 4) 55 [vR 446, vI 1, vI hi9] (vup g 450 i (g 446 5)) = some ((0, 0), vI 0, g') ∧ PEm B (nuC T (tE T p) 1 hi9) (tS T (tE T p)) g' ∧ g' 448 4 = i) := fun hi9 h9 => p_num (D := D + 1) hB hg1 (by decide) h9
  -- what stands behind the valley's name
  have key : ∀ (b : Nat) (g' : Vw) (q : Nat), b = 0 ∨ b = 1 → g' 448 4 = i → (v = 2 → vM MT0 (D + 4) 57 [vR 446, vR 7] (vup g 450 i (g 446 5)) = some ((0, 0), vI b, g')) → (v ≠ 2 → vM MT0 (D + 4) 55 [vR 446, vI 1, vI (if v = 4 then 99 else 999)] (vup g 450 i (g 446 5)) = some ((0, 0), vI b, g')) → vM MT0 (D + 5) 10 [vR 448, vI v, vR 7] f = some ((0, 0), vI b, vup g' 451 i (g' 446 5)) := by
    intro b g' _ hb h4 e2 e3
    refine vM_go rfl rfl rfl rfl fun F hF => ?_
    (first | (refine (vbnd_0 e).trans ?_) | (refine (vF_g rfl rfl).trans ?_; refine (vF_g rfl rfl).trans ?_; refine (vbnd_0 e).trans ?_) | (refine (vF_g rfl rfl).trans ?_; refine (vbnd_0 e).trans ?_))
    (first | (refine (vgt (x := 1) (y := 0) (by decide) (by decide)).trans ?_) | (refine (vF_g rfl rfl).trans ?_; refine (vF_g rfl rfl).trans ?_; refine (vgt (x := 1) (y := 0) (by decide) (by decide)).trans ?_) | (refine (vF_g rfl rfl).trans ?_; refine (vgt (x := 1) (y := 0) (by decide) (by decide)).trans ?_))
    (first | (refine Eq.trans (b := gd (Nat.ble (g 448 4 + 1) 30) (vB (vM MT0 (D + 4)) (vFn (vM MT0 (D + 4)) nb_X1_takeValleyAndMore (F + 58)) ((1, 4, 3, 4, 0, 0, 0), []) [(5, 0, 1, 0, 0, 0, 0), (0, 2, 0, 0, 0, 0, 0)] 0 [vR 448, vI v, vR 7, vW 3] [] (vup (g) 450 (g 448 4) (g 446 5)))) rfl ?_) | (refine (vF_g rfl rfl).trans ?_; refine (vF_g rfl rfl).trans ?_; refine Eq.trans (b := gd (Nat.ble (g 448 4 + 1) 30) (vB (vM MT0 (D + 4)) (vFn (vM MT0 (D + 4)) nb_X1_takeValleyAndMore (F + 58)) ((1, 4, 3, 4, 0, 0, 0), []) [(5, 0, 1, 0, 0, 0, 0), (0, 2, 0, 0, 0, 0, 0)] 0 [vR 448, vI v, vR 7, vW 3] [] (vup (g) 450 (g 448 4) (g 446 5)))) rfl ?_) | (refine (vF_g rfl rfl).trans ?_; refine Eq.trans (b := gd (Nat.ble (g 448 4 + 1) 30) (vB (vM MT0 (D + 4)) (vFn (vM MT0 (D + 4)) nb_X1_takeValleyAndMore (F + 58)) ((1, 4, 3, 4, 0, 0, 0), []) [(5, 0, 1, 0, 0, 0, 0), (0, 2, 0, 0, 0, 0, 0)] 0 [vR 448, vI v, vR 7, vW 3] [] (vup (g) 450 (g 448 4) (g 446 5)))) rfl ?_))
    rw [hg4, Nat.ble_eq_true_of_le (show i + 1 ≤ 30 by omega)]
    have fin : ∀ F9 x, vFn (vM MT0 (D + 4)) nb_X1_takeValleyAndMore (F9 + 1) 8 0 [vR 448, vI x, vR 7, vI b] [] g' = some ((0, 0), vI b, vup g' 451 i (g' 446 5)) := by
      intro F9 x
      (first | (refine Eq.trans (b := gd (Nat.ble (g' 448 4 + 1) 30) (vB (vM MT0 (D + 4)) (vFn (vM MT0 (D + 4)) nb_X1_takeValleyAndMore F9) ((4, 4, 0, 0, 0, 0, 0), []) [(5, 0, 3, 0, 0, 0, 0)] 0 [vR 448, vI x, vR 7, vI b] [] (vup g' 451 (g' 448 4) (g' 446 5)))) rfl ?_) | (refine (vF_g rfl rfl).trans ?_; refine (vF_g rfl rfl).trans ?_; refine Eq.trans (b := gd (Nat.ble (g' 448 4 + 1) 30) (vB (vM MT0 (D + 4)) (vFn (vM MT0 (D + 4)) nb_X1_takeValleyAndMore F9) ((4, 4, 0, 0, 0, 0, 0), []) [(5, 0, 3, 0, 0, 0, 0)] 0 [vR 448, vI x, vR 7, vI b] [] (vup g' 451 (g' 448 4) (g' 446 5)))) rfl ?_) | (refine (vF_g rfl rfl).trans ?_; refine Eq.trans (b := gd (Nat.ble (g' 448 4 + 1) 30) (vB (vM MT0 (D + 4)) (vFn (vM MT0 (D + 4)) nb_X1_takeValleyAndMore F9) ((4, 4, 0, 0, 0, 0, 0), []) [(5, 0, 3, 0, 0, 0, 0)] 0 [vR 448, vI x, vR 7, vI b] [] (vup g' 451 (g' 448 4) (g' 446 5)))) rfl ?_))
      rw [h4, Nat.ble_eq_true_of_le (show i + 1 ≤ 30 by omega)]
      rcases hb with rfl | rfl
      · (first | (exact rfl) | (refine (vF_g rfl rfl).trans ?_; refine (vF_g rfl rfl).trans ?_; exact rfl) | (refine (vF_g rfl rfl).trans ?_; refine (vF_g rfl rfl).trans ?_; refine (vF_g rfl rfl).trans ?_; exact rfl) | (refine (vF_g rfl rfl).trans ?_; exact rfl))
      · (first | (exact rfl) | (refine (vF_g rfl rfl).trans ?_; refine (vF_g rfl rfl).trans ?_; exact rfl) | (refine (vF_g rfl rfl).trans ?_; refine (vF_g rfl rfl).trans ?_; refine (vF_g rfl rfl).trans ?_; exact rfl) | (refine (vF_g rfl rfl).trans ?_; exact rfl))
    by_cases k : v = 2
    · (first | (refine (veq k).trans ?_) | (refine (vF_g rfl rfl).trans ?_; refine (vF_g rfl rfl).trans ?_; refine (veq k).trans ?_) | (refine (vF_g rfl rfl).trans ?_; refine (veq k).trans ?_))
      (first | (refine (vbnd_0 (e2 k)).trans ?_) | (refine (vF_g rfl rfl).trans ?_; refine (vF_g rfl rfl).trans ?_; refine (vbnd_0 (e2 k)).trans ?_) | (refine (vF_g rfl rfl).trans ?_; refine (vbnd_0 (e2 k)).trans ?_))
      exact fin _ _
    · (first | (refine (vne (by omega) (by decide) k).trans ?_) | (refine (vF_g rfl rfl).trans ?_; refine (vF_g rfl rfl).trans ?_; refine (vne (by omega) (by decide) k).trans ?_) | (refine (vF_g rfl rfl).trans ?_; refine (vne (by omega) (by decide) k).trans ?_))
      have e4 := e3 k
      by_cases k4 : v = 4
      · rw [if_pos k4] at e4
        (first | (refine (veq k4).trans ?_) | (refine (vF_g rfl rfl).trans ?_; refine (vF_g rfl rfl).trans ?_; refine (veq k4).trans ?_) | (refine (vF_g rfl rfl).trans ?_; refine (veq k4).trans ?_))
        (first | (refine (vbnd_0 e4).trans ?_) | (refine (vF_g rfl rfl).trans ?_; refine (vF_g rfl rfl).trans ?_; refine (vbnd_0 e4).trans ?_) | (refine (vF_g rfl rfl).trans ?_; refine (vbnd_0 e4).trans ?_))
        exact fin _ _
      · rw [if_neg k4] at e4
        (first | (refine (vne (by omega) (by decide) k4).trans ?_) | (refine (vF_g rfl rfl).trans ?_; refine (vF_g rfl rfl).trans ?_; refine (vne (by omega) (by decide) k4).trans ?_) | (refine (vF_g rfl rfl).trans ?_; refine (vne (by omega) (by decide) k4).trans ?_))
        (first | (refine (vbnd_0 e4).trans ?_) | (refine (vF_g rfl rfl).trans ?_; refine (vF_g rfl rfl).trans ?_; refine (vbnd_0 e4).trans ?_) | (refine (vF_g rfl rfl).trans ?_; refine (vbnd_0 e4).trans ?_))
        exact fin _ _
  by_cases k : v = 2
  · rw [if_pos k]
    by_cases k3 : nOK T (tE T p)
    rotate_left
    · obtain ⟨g', e', hg', h4⟩ := b1 k3
      rw [oIt_2 k3]
      exact ⟨fun w => absurd w n01, fun _ => ⟨_, key 0 g' 0 (Or.inl rfl) h4 (fun _ => e') (fun w => absurd k w), pe_ar hg' ⟨by decide, by decide⟩⟩⟩
    by_cases k4 : fidx N (pkr (tN T (tE T p))) c 0 = 4294967295
    · obtain ⟨g', e', hg', h4⟩ := b2 k3 k4
      rw [oIt_1 k3 k4]
      exact ⟨fun w => absurd w n31, fun _ => ⟨_, key 0 g' 0 (Or.inl rfl) h4 (fun _ => e') (fun w => absurd k w), pe_ar hg' ⟨by decide, by decide⟩⟩⟩
    · obtain ⟨g', e', hg'⟩ := b3 k3 k4
      rw [oIt_0 k3 k4]
      exact ⟨fun _ => ⟨_, key 1 g' 0 (Or.inr rfl) hg'.2.2.2.1 (fun _ => e') (fun w => absurd k w), ps_ar hg' ⟨by decide, by decide⟩⟩, fun w => absurd rfl w⟩
  · rw [if_neg k]
    have go : ∀ hi9, hi9 < 10000 → (if v = 4 then 99 else 999) = hi9 → ((oN T (tE T p) 1 hi9 fun p => (0, p)).1 = 0 → ∃ g, vM MT0 (D + 5) 10 [vR 448, vI v, vR 7] f = some ((0, 0), vI 1, g) ∧ PSm B n (oN T (tE T p) 1 hi9 fun p => (0, p)).2 i g) ∧ ((oN T (tE T p) 1 hi9 fun p => (0, p)).1 ≠ 0 → ∃ g, vM MT0 (D + 5) 10 [vR 448, vI v, vR 7] f = some ((0, 0), vI 0, g) ∧ PEm B (oN T (tE T p) 1 hi9 fun p => (0, p)).1 (oN T (tE T p) 1 hi9 fun p => (0, p)).2 g) := by
      intro hi9 h9 eh
      obtain ⟨c1, c2⟩ := num hi9 h9
      by_cases k3 : nuC T (tE T p) 1 hi9 = 0
      · obtain ⟨g', e', hg'⟩ := c1 k3
        rw [oN_0 k3]
        exact ⟨fun _ => ⟨_, key 1 g' 0 (Or.inr rfl) hg'.2.2.2.1 (fun w => absurd w k) (fun _ => by rw [eh]; exact e'), ps_ar hg' ⟨by decide, by decide⟩⟩, fun w => absurd rfl w⟩
      · obtain ⟨g', e', hg', h4⟩ := c2 k3
        rw [oN_1 k3]
        exact ⟨fun w => absurd w k3, fun _ => ⟨_, key 0 g' 0 (Or.inl rfl) h4 (fun w => absurd w k) (fun _ => by rw [eh]; exact e'), pe_ar hg' ⟨by decide, by decide⟩⟩⟩
    by_cases k4 : v = 4
    · rw [if_pos k4]
      exact go 99 (by decide) (if_pos k4)
    · rw [if_neg k4]
      exact go 999 (by decide) (if_neg k4)
theorem p_par {D p i v : Nat} {f : Vw} (hB : CB B n T N c M d) (h : PSm B n p i f) (hi : i < 30) (hv : v < 7) : ((oArg T N c M d v p fun p => (0, p)).1 = 0 → ∃ g, vM MT0 (D + 6) 9 [vR 448, vI v, vR 7] f = some ((0, 0), vI 1, g) ∧ PSm B n (oArg T N c M d v p fun p => (0, p)).2 i g) ∧ ((oArg T N c M d v p fun p => (0, p)).1 ≠ 0 → ∃ g, vM MT0 (D + 6) 9 [vR 448, vI v, vR 7] f = some ((0, 0), vI 0, g) ∧ PEm B (oArg T N c M d v p fun p => (0, p)).1 (oArg T N c M d v p fun p => (0, p)).2 g) := by
  have h4 : f 448 4 = i := h.2.2.2.1
  have h1 : PSm B n p i (vup (vup f 450 i 0) 451 i 0) := ps_ar (ps_ar h ⟨by decide, by decide⟩) ⟨by decide, by decide⟩
  have ent : ∀ v9, v9 < 7 → ∀ r, (∀ F, 999940 ≤ F → vB (vM MT0 (D + 5)) (vFn (vM MT0 (D + 5)) nb_X1_takeParameters (F + 59)) ((3, 4, 0, 0, 0, 0, 0), [2, 1, 4, 3, 4, 4, 3]) [(5, 0, 1, 0, 0, 0, 0)] 0 [vR 448, vI v9, vR 7, vW 3] [] (vup (vup f 450 i 0) 451 i 0) = r) → vM MT0 (D + 6) 9 [vR 448, vI v9, vR 7] f = r := by
    intro v9 hv9 r hr
    refine vM_go rfl rfl rfl rfl fun F hF => ?_
    (first | (refine Eq.trans (b := gd (Nat.ble (f 448 4 + 1) 30) (vB (vM MT0 (D + 5)) (vFn (vM MT0 (D + 5)) nb_X1_takeParameters (F + 59)) ((3, 4, 0, 0, 0, 0, 0), [2, 1, 4, 3, 4, 4, 3]) [(5, 2, 0, 0, 0, 0, 0), (21, 1, 3, 0, 0, 0, 0), (5, 2, 0, 0, 0, 0, 0), (21, 1, 4, 0, 0, 0, 0), (0, 0, 0, 0, 0, 0, 0), (24, 0, 0, 0, 0, 0, 0), (5, 0, 1, 0, 0, 0, 0)] 0 [vR 448, vI v9, vR 7, vW 3] [] (vup (f) 450 (f 448 4) (0)))) rfl ?_) | (refine (vF_g rfl rfl).trans ?_; refine (vF_g rfl rfl).trans ?_; refine Eq.trans (b := gd (Nat.ble (f 448 4 + 1) 30) (vB (vM MT0 (D + 5)) (vFn (vM MT0 (D + 5)) nb_X1_takeParameters (F + 59)) ((3, 4, 0, 0, 0, 0, 0), [2, 1, 4, 3, 4, 4, 3]) [(5, 2, 0, 0, 0, 0, 0), (21, 1, 3, 0, 0, 0, 0), (5, 2, 0, 0, 0, 0, 0), (21, 1, 4, 0, 0, 0, 0), (0, 0, 0, 0, 0, 0, 0), (24, 0, 0, 0, 0, 0, 0), (5, 0, 1, 0, 0, 0, 0)] 0 [vR 448, vI v9, vR 7, vW 3] [] (vup (f) 450 (f 448 4) (0)))) rfl ?_) | (refine (vF_g rfl rfl).trans ?_; refine Eq.trans (b := gd (Nat.ble (f 448 4 + 1) 30) (vB (vM MT0 (D + 5)) (vFn (vM MT0 (D + 5)) nb_X1_takeParameters (F + 59)) ((3, 4, 0, 0, 0, 0, 0), [2, 1, 4, 3, 4, 4, 3]) [(5, 2, 0, 0, 0, 0, 0), (21, 1, 3, 0, 0, 0, 0), (5, 2, 0, 0, 0, 0, 0), (21, 1, 4, 0, 0, 0, 0), (0, 0, 0, 0, 0, 0, 0), (24, 0, 0, 0, 0, 0, 0), (5, 0, 1, 0, 0, 0, 0)] 0 [vR 448, vI v9, vR 7, vW 3] [] (vup (f) 450 (f 448 4) (0)))) rfl ?_))
    rw [h4, Nat.ble_eq_true_of_le (show i + 1 ≤ 30 by omega)]
    (first | (refine Eq.trans (b := gd (Nat.ble ((vup f 450 i 0) 448 4 + 1) 30) (vB (vM MT0 (D + 5)) (vFn (vM MT0 (D + 5)) nb_X1_takeParameters (F + 59)) ((3, 4, 0, 0, 0, 0, 0), [2, 1, 4, 3, 4, 4, 3]) [(5, 0, 1, 0, 0, 0, 0)] 0 [vR 448, vI v9, vR 7, vW 3] [] (vup (vup f 450 i 0) 451 ((vup f 450 i 0) 448 4) (0)))) rfl ?_) | (refine (vF_g rfl rfl).trans ?_; refine (vF_g rfl rfl).trans ?_; refine Eq.trans (b := gd (Nat.ble ((vup f 450 i 0) 448 4 + 1) 30) (vB (vM MT0 (D + 5)) (vFn (vM MT0 (D + 5)) nb_X1_takeParameters (F + 59)) ((3, 4, 0, 0, 0, 0, 0), [2, 1, 4, 3, 4, 4, 3]) [(5, 0, 1, 0, 0, 0, 0)] 0 [vR 448, vI v9, vR 7, vW 3] [] (vup (vup f 450 i 0) 451 ((vup f 450 i 0) 448 4) (0)))) rfl ?_) | (refine (vF_g rfl rfl).trans ?_; refine Eq.trans (b := gd (Nat.ble ((vup f 450 i 0) 448 4 + 1) 30) (vB (vM MT0 (D + 5)) (vFn (vM MT0 (D + 5)) nb_X1_takeParameters (F + 59)) ((3, 4, 0, 0, 0, 0, 0), [2, 1, 4, 3, 4, 4, 3]) [(5, 0, 1, 0, 0, 0, 0)] 0 [vR 448, vI v9, vR 7, vW 3] [] (vup (vup f 450 i 0) 451 ((vup f 450 i 0) 448 4) (0)))) rfl ?_))
    rw [show (vup f 450 i 0) 448 4 = i from (vup_ne (Or.inl (by decide))).trans h4, Nat.ble_eq_true_of_le (show i + 1 ≤ 30 by omega)]
    exact hr F hF
  -- a value taken, then kept in first
  have fin : ∀ (F9 x b : Nat) (g' : Vw), b = 0 ∨ b = 1 → g' 448 4 = i → vB (vM MT0 (D + 5)) (vFn (vM MT0 (D + 5)) nb_X1_takeParameters F9) ((4, 4, 0, 0, 0, 0, 0), []) [(6, 0, 3, 0, 0, 0, 0), (5, 2, 0, 0, 0, 0, 0), (21, 1, 2, 0, 0, 0, 0), (5, 2, 0, 0, 0, 0, 0), (21, 1, 4, 0, 0, 0, 0), (5, 2, 0, 0, 0, 0, 0), (21, 1, 0, 0, 0, 0, 0), (21, 7, 5, 0, 0, 0, 0), (24, 0, 0, 0, 0, 0, 0), (5, 0, 3, 0, 0, 0, 0)] 0 [vR 448, vI x, vR 7, vW 3] [vI b] g' = some ((0, 0), vI b, vup g' 450 i (g' 446 5)) := by
    intro F9 x b g' hb k4
    (first | (refine Eq.trans (b := gd (Nat.ble (g' 448 4 + 1) 30) (vB (vM MT0 (D + 5)) (vFn (vM MT0 (D + 5)) nb_X1_takeParameters F9) ((4, 4, 0, 0, 0, 0, 0), []) [(5, 0, 3, 0, 0, 0, 0)] 0 [vR 448, vI x, vR 7, vI b] [] (vup g' 450 (g' 448 4) (g' 446 5)))) rfl ?_) | (refine (vF_g rfl rfl).trans ?_; refine (vF_g rfl rfl).trans ?_; refine Eq.trans (b := gd (Nat.ble (g' 448 4 + 1) 30) (vB (vM MT0 (D + 5)) (vFn (vM MT0 (D + 5)) nb_X1_takeParameters F9) ((4, 4, 0, 0, 0, 0, 0), []) [(5, 0, 3, 0, 0, 0, 0)] 0 [vR 448, vI x, vR 7, vI b] [] (vup g' 450 (g' 448 4) (g' 446 5)))) rfl ?_) | (refine (vF_g rfl rfl).trans ?_; refine Eq.trans (b := gd (Nat.ble (g' 448 4 + 1) 30) (vB (vM MT0 (D + 5)) (vFn (vM MT0 (D + 5)) nb_X1_takeParameters F9) ((4, 4, 0, 0, 0, 0, 0), []) [(5, 0, 3, 0, 0, 0, 0)] 0 [vR 448, vI x, vR 7, vI b] [] (vup g' 450 (g' 448 4) (g' 446 5)))) rfl ?_))
    rw [k4, Nat.ble_eq_true_of_le (show i + 1 ≤ 30 by omega)]
    rcases hb with rfl | rfl
    · (first | (exact rfl) | (refine (vF_g rfl rfl).trans ?_; refine (vF_g rfl rfl).trans ?_; exact rfl) | (refine (vF_g rfl rfl).trans ?_; refine (vF_g rfl rfl).trans ?_; refine (vF_g rfl rfl).trans ?_; exact rfl) | (refine (vF_g rfl rfl).trans ?_; exact rfl))
    · (first | (exact rfl) | (refine (vF_g rfl rfl).trans ?_; refine (vF_g rfl rfl).trans ?_; exact rfl) | (refine (vF_g rfl rfl).trans ?_; refine (vF_g rfl rfl).trans ?_; refine (vF_g rfl rfl).trans ?_; exact rfl) | (refine (vF_g rfl rfl).trans ?_; exact rfl))
  have echo : ∀ v9, v9 = 3 ∨ v9 = 6 → oArg T N c M d v9 p (fun p => (0, p)) = oIt T N c p (fun p => (0, p)) → ((oArg T N c M d v9 p fun p => (0, p)).1 = 0 → ∃ g, vM MT0 (D + 6) 9 [vR 448, vI v9, vR 7] f = some ((0, 0), vI 1, g) ∧ PSm B n (oArg T N c M d v9 p fun p => (0, p)).2 i g) ∧ ((oArg T N c M d v9 p fun p => (0, p)).1 ≠ 0 → ∃ g, vM MT0 (D + 6) 9 [vR 448, vI v9, vR 7] f = some ((0, 0), vI 0, g) ∧ PEm B (oArg T N c M d v9 p fun p => (0, p)).1 (oArg T N c M d v9 p fun p => (0, p)).2 g) := by
    intro v9 hv9 ea
    rw [ea]
    obtain ⟨b1, b2, b3⟩ := p_itE (D := D + 1) hB h1
    have run : ∀ b g', b = 0 ∨ b = 1 → g' 448 4 = i → vM MT0 (D + 5) 57 [vR 446, vR 7] (vup (vup f 450 i 0) 451 i 0) = some ((0, 0), vI b, g') → vM MT0 (D + 6) 9 [vR 448, vI v9, vR 7] f = some ((0, 0), vI b, vup g' 450 i (g' 446 5)) := by
      intro b g' hb k4 e
      refine ent v9 (by omega) _ fun F hF => ?_
      rcases hv9 with rfl | rfl
      · (first | (refine (vbnd_0 e).trans ?_) | (refine (vF_g rfl rfl).trans ?_; refine (vF_g rfl rfl).trans ?_; refine (vbnd_0 e).trans ?_) | (refine (vF_g rfl rfl).trans ?_; refine (vbnd_0 e).trans ?_))
        exact fin _ _ b g' hb k4
      · (first | (refine (vbnd_0 e).trans ?_) | (refine (vF_g rfl rfl).trans ?_; refine (vF_g rfl rfl).trans ?_; refine (vbnd_0 e).trans ?_) | (refine (vF_g rfl rfl).trans ?_; refine (vbnd_0 e).trans ?_))
        exact fin _ _ b g' hb k4
    by_cases k1 : nOK T p
    rotate_left
    · obtain ⟨g, e, hg, k4⟩ := b1 k1
      rw [oIt_2 k1]
      exact ⟨fun w => absurd w n01, fun _ => ⟨_, run 0 g (Or.inl rfl) k4 e, pe_ar hg ⟨by decide, by decide⟩⟩⟩
    by_cases k2 : fidx N (pkr (tN T p)) c 0 = 4294967295
    · obtain ⟨g, e, hg, k4⟩ := b2 k1 k2
      rw [oIt_1 k1 k2]
      exact ⟨fun w => absurd w n31, fun _ => ⟨_, run 0 g (Or.inl rfl) k4 e, pe_ar hg ⟨by decide, by decide⟩⟩⟩
    · obtain ⟨g, e, hg⟩ := b3 k1 k2
      rw [oIt_0 k1 k2]
      exact ⟨fun _ => ⟨_, run 1 g (Or.inr rfl) hg.2.2.2.1 e, ps_ar hg ⟨by decide, by decide⟩⟩, fun w => absurd rfl w⟩
  have more : ∀ v9, v9 = 2 ∨ v9 = 4 ∨ v9 = 5 → ((oArg T N c M d v9 p fun p => (0, p)).1 = 0 → ∃ g, vM MT0 (D + 6) 9 [vR 448, vI v9, vR 7] f = some ((0, 0), vI 1, g) ∧ PSm B n (oArg T N c M d v9 p fun p => (0, p)).2 i g) ∧ ((oArg T N c M d v9 p fun p => (0, p)).1 ≠ 0 → ∃ g, vM MT0 (D + 6) 9 [vR 448, vI v9, vR 7] f = some ((0, 0), vI 0, g) ∧ PEm B (oArg T N c M d v9 p fun p => (0, p)).1 (oArg T N c M d v9 p fun p => (0, p)).2 g) := by
    intro v9 hv9
    obtain ⟨b1, b2⟩ := p_vm (D := D) (v := v9) hB h1 hi hv9
    have run : ∀ b g', b = 0 ∨ b = 1 → vM MT0 (D + 5) 10 [vR 448, vI v9, vR 7] (vup (vup f 450 i 0) 451 i 0) = some ((0, 0), vI b, g') → vM MT0 (D + 6) 9 [vR 448, vI v9, vR 7] f = some ((0, 0), vI b, g') := by
      intro b g' hb e
      refine ent v9 (by omega) _ fun F hF => ?_
      rcases hb with rfl | rfl
      · rcases hv9 with rfl | rfl | rfl
        · (first | (refine (vbnd_0 e).trans ?_) | (refine (vF_g rfl rfl).trans ?_; refine (vF_g rfl rfl).trans ?_; refine (vbnd_0 e).trans ?_) | (refine (vF_g rfl rfl).trans ?_; refine (vbnd_0 e).trans ?_))
          (first | (exact rfl) | (refine (vF_g rfl rfl).trans ?_; refine (vF_g rfl rfl).trans ?_; exact rfl) | (refine (vF_g rfl rfl).trans ?_; refine (vF_g rfl rfl).trans ?_; refine (vF_g rfl rfl).trans ?_; exact rfl) | (refine (vF_g rfl rfl).trans ?_; exact rfl))
        · (first | (refine (vbnd_0 e).trans ?_) | (refine (vF_g rfl rfl).trans ?_; refine (vF_g rfl rfl).trans ?_; refine (vbnd_0 e).trans ?_) | (refine (vF_g rfl rfl).trans ?_; refine (vbnd_0 e).trans ?_))
          (first | (exact rfl) | (refine (vF_g rfl rfl).trans ?_; refine (vF_g rfl rfl).trans ?_; exact rfl) | (refine (vF_g rfl rfl).trans ?_; refine (vF_g rfl rfl).trans ?_; refine (vF_g rfl rfl).trans ?_; exact rfl) | (refine (vF_g rfl rfl).trans ?_; exact rfl))
        · (first | (refine (vbnd_0 e).trans ?_) | (refine (vF_g rfl rfl).trans ?_; refine (vF_g rfl rfl).trans ?_; refine (vbnd_0 e).trans ?_) | (refine (vF_g rfl rfl).trans ?_; refine (vbnd_0 e).trans ?_))
          (first | (exact rfl) | (refine (vF_g rfl rfl).trans ?_; refine (vF_g rfl rfl).trans ?_; exact rfl) | (refine (vF_g rfl rfl).trans ?_; refine (vF_g rfl rfl).trans ?_; refine (vF_g rfl rfl).trans ?_; exact rfl) | (refine (vF_g rfl rfl).trans ?_; exact rfl))
      · rcases hv9 with rfl | rfl | rfl
        · (first | (refine (vbnd_0 e).trans ?_) | (refine (vF_g rfl rfl).trans ?_; refine (vF_g rfl rfl).trans ?_; refine (vbnd_0 e).trans ?_) | (refine (vF_g rfl rfl).trans ?_; refine (vbnd_0 e).trans ?_))
          (first | (exact rfl) | (refine (vF_g rfl rfl).trans ?_; refine (vF_g rfl rfl).trans ?_; exact rfl) | (refine (vF_g rfl rfl).trans ?_; refine (vF_g rfl rfl).trans ?_; refine (vF_g rfl rfl).trans ?_; exact rfl) | (refine (vF_g rfl rfl).trans ?_; exact rfl))
        · (first | (refine (vbnd_0 e).trans ?_) | (refine (vF_g rfl rfl).trans ?_; refine (vF_g rfl rfl).trans ?_; refine (vbnd_0 e).trans ?_) | (refine (vF_g rfl rfl).trans ?_; refine (vbnd_0 e).trans ?_))
          (first | (exact rfl) | (refine (vF_g rfl rfl).trans ?_; refine (vF_g rfl rfl).trans ?_; exact rfl) | (refine (vF_g rfl rfl).trans ?_; refine (vF_g rfl rfl).trans ?_; refine (vF_g rfl rfl).trans ?_; exact rfl) | (refine (vF_g rfl rfl).trans ?_; exact rfl))
        · (first | (refine (vbnd_0 e).trans ?_) | (refine (vF_g rfl rfl).trans ?_; refine (vF_g rfl rfl).trans ?_; refine (vbnd_0 e).trans ?_) | (refine (vF_g rfl rfl).trans ?_; refine (vbnd_0 e).trans ?_))
          (first | (exact rfl) | (refine (vF_g rfl rfl).trans ?_; refine (vF_g rfl rfl).trans ?_; exact rfl) | (refine (vF_g rfl rfl).trans ?_; refine (vF_g rfl rfl).trans ?_; refine (vF_g rfl rfl).trans ?_; exact rfl) | (refine (vF_g rfl rfl).trans ?_; exact rfl))
    refine ⟨fun w => ?_, fun w => ?_⟩
    · obtain ⟨g, e, hg⟩ := b1 w
      exact ⟨g, run 1 g (Or.inr rfl) e, hg⟩
    · obtain ⟨g, e, hg⟩ := b2 w
      exact ⟨g, run 0 g (Or.inl rfl) e, hg⟩
  rcases (show v = 0 ∨ v = 1 ∨ v = 2 ∨ v = 3 ∨ v = 4 ∨ v = 5 ∨ v = 6 by omega) with rfl | rfl | rfl | rfl | rfl | rfl | rfl
  · rw [oArg_0]
    obtain ⟨b1, b2⟩ := p_num (D := D + 2) (lo := 1) (hi := 60) hB h1 (by decide) (by decide)
    by_cases k : nuC T p 1 60 = 0
    · obtain ⟨g, e, hg⟩ := b1 k
      rw [oN_0 k]
      refine ⟨fun _ => ⟨vup g 450 i (g 446 5), ent 0 (by decide) _ fun F hF => ?_, ps_ar (k := 450) hg ⟨by decide, by decide⟩⟩, fun w => absurd rfl w⟩
      (first | (refine (vbnd_0 e).trans ?_) | (refine (vF_g rfl rfl).trans ?_; refine (vF_g rfl rfl).trans ?_; refine (vbnd_0 e).trans ?_) | (refine (vF_g rfl rfl).trans ?_; refine (vbnd_0 e).trans ?_))
      exact fin _ _ 1 g (Or.inr rfl) hg.2.2.2.1
    · obtain ⟨g, e, hg, k4⟩ := b2 k
      rw [oN_1 k]
      refine ⟨fun w => absurd w k, fun _ => ⟨vup g 450 i (g 446 5), ent 0 (by decide) _ fun F hF => ?_, pe_ar (k := 450) hg ⟨by decide, by decide⟩⟩⟩
      (first | (refine (vbnd_0 e).trans ?_) | (refine (vF_g rfl rfl).trans ?_; refine (vF_g rfl rfl).trans ?_; refine (vbnd_0 e).trans ?_) | (refine (vF_g rfl rfl).trans ?_; refine (vbnd_0 e).trans ?_))
      exact fin _ _ 0 g (Or.inl rfl) k4
  · rw [oArg_1]
    refine ⟨fun _ => ⟨_, ent 1 (by decide) _ fun F hF => ?_, h1⟩, fun w => absurd rfl w⟩
    (first | (exact rfl) | (refine (vF_g rfl rfl).trans ?_; refine (vF_g rfl rfl).trans ?_; exact rfl) | (refine (vF_g rfl rfl).trans ?_; refine (vF_g rfl rfl).trans ?_; refine (vF_g rfl rfl).trans ?_; exact rfl) | (refine (vF_g rfl rfl).trans ?_; exact rfl))
  · exact more 2 (Or.inl rfl)
  · exact echo 3 (Or.inl rfl) oArg_3
  · exact more 4 (Or.inr (Or.inl rfl))
  · exact more 5 (Or.inr (Or.inr rfl))
  · exact echo 6 (Or.inr rfl) oArg_6
theorem v_cmds {D : Nat} (hB : CB B n T N c M d) : ∀ (m p i F : Nat) (y : AV) (f : Vw), i + m = 30 → 7 * m + 8 ≤ F → PSm B n p i f → ((oCm T N c M d m p).1 = 0 → ∃ g, vFn (vM MT0 (D + 6)) nb_X1_parse F 1 0 [vR 448, vR 7, vI i, y] [] f = some ((0, 0), vI 1, g) ∧ PEm B 0 4294967295 g) ∧ ((oCm T N c M d m p).1 ≠ 0 → ∃ g, vFn (vM MT0 (D + 6)) nb_X1_parse F 1 0 [vR 448, vR 7, vI i, y] [] f = some ((0, 0), vI 0, g) ∧ PEm B (oCm T N c M d m p).1 (oCm T N c M d m p).2 g) := by
  intro m
  induction m with
  | zero =>
    intro p i F y f hi hF h
    obtain ⟨F1, rfl⟩ : ∃ F1, F = F1 + 7 := ⟨F - 7, by omega⟩
    have hx := om_tx h.1 hB.1
    have e1 := v_next9 (D := D + 4) hx h.2.1 h.2.2.1
    have k9 : tk9 f T p 446 2 ≤ 5 := kd9_l _
    have hk : ∀ q, tk9 f T p 446 2 = q ↔ tK T p = q := fun q => by rw [tkq_2]
    by_cases k0 : tK T p = 0
    · rw [oCm_0 k0]
      refine ⟨fun _ => ⟨_, ?_, (ps_tk h hB.1).1, (ps_tk h hB.1).2.2.2.2.1, (ps_tk h hB.1).2.2.2.2.2⟩, fun w => absurd rfl w⟩
      (first | (refine (vle2 (x := i) (y := 30) (by decide) (by omega)).trans ?_) | (refine (vF_g rfl rfl).trans ?_; refine (vF_g rfl rfl).trans ?_; refine (vle2 (x := i) (y := 30) (by decide) (by omega)).trans ?_) | (refine (vF_g rfl rfl).trans ?_; refine (vle2 (x := i) (y := 30) (by decide) (by omega)).trans ?_))
      (first | (refine (vbnd_1 e1).trans ?_) | (refine (vF_g rfl rfl).trans ?_; refine (vF_g rfl rfl).trans ?_; refine (vbnd_1 e1).trans ?_) | (refine (vF_g rfl rfl).trans ?_; refine (vbnd_1 e1).trans ?_))
      (first | (refine (veq ((hk 0).mpr k0)).trans ?_) | (refine (vF_g rfl rfl).trans ?_; refine (vF_g rfl rfl).trans ?_; refine (veq ((hk 0).mpr k0)).trans ?_) | (refine (vF_g rfl rfl).trans ?_; refine (veq ((hk 0).mpr k0)).trans ?_))
      (first | (exact rfl) | (refine (vF_g rfl rfl).trans ?_; refine (vF_g rfl rfl).trans ?_; exact rfl) | (refine (vF_g rfl rfl).trans ?_; refine (vF_g rfl rfl).trans ?_; refine (vF_g rfl rfl).trans ?_; exact rfl) | (refine (vF_g rfl rfl).trans ?_; exact rfl))
    · have e2 := v_verbRead (D := D + 3) (txC_tk (p := p) hx) h.2.2.1 tkq_2 tkq_3 tkq_4
      have n0 : tk9 f T p 446 2 ≠ 0 := fun w => k0 ((hk 0).mp w)
      rcases oVb_lt (T := T) (p := p) 7 20 (by decide) with kv | ⟨-, kv⟩
      · rw [oCm_1 k0 kv]
        rw [kv] at e2
        refine ⟨fun w => absurd w n01, fun _ => ⟨_, ?_, pe_fl (om_tk h.1) tkq_3⟩⟩
        (first | (refine (vle2 (x := i) (y := 30) (by decide) (by omega)).trans ?_) | (refine (vF_g rfl rfl).trans ?_; refine (vF_g rfl rfl).trans ?_; refine (vle2 (x := i) (y := 30) (by decide) (by omega)).trans ?_) | (refine (vF_g rfl rfl).trans ?_; refine (vle2 (x := i) (y := 30) (by decide) (by omega)).trans ?_))
        (first | (refine (vbnd_1 e1).trans ?_) | (refine (vF_g rfl rfl).trans ?_; refine (vF_g rfl rfl).trans ?_; refine (vbnd_1 e1).trans ?_) | (refine (vF_g rfl rfl).trans ?_; refine (vbnd_1 e1).trans ?_))
        (first | (refine (vne (by omega) (by decide) n0).trans ?_) | (refine (vF_g rfl rfl).trans ?_; refine (vF_g rfl rfl).trans ?_; refine (vne (by omega) (by decide) n0).trans ?_) | (refine (vF_g rfl rfl).trans ?_; refine (vne (by omega) (by decide) n0).trans ?_))
        (first | (refine (vbnd_0 e2).trans ?_) | (refine (vF_g rfl rfl).trans ?_; refine (vF_g rfl rfl).trans ?_; refine (vbnd_0 e2).trans ?_) | (refine (vF_g rfl rfl).trans ?_; refine (vbnd_0 e2).trans ?_))
        (first | (refine (veq rfl).trans ?_) | (refine (vF_g rfl rfl).trans ?_; refine (vF_g rfl rfl).trans ?_; refine (veq rfl).trans ?_) | (refine (vF_g rfl rfl).trans ?_; refine (veq rfl).trans ?_))
        (first | (refine (vbnd_0 v_fail9).trans ?_) | (refine (vF_g rfl rfl).trans ?_; refine (vF_g rfl rfl).trans ?_; refine (vbnd_0 v_fail9).trans ?_) | (refine (vF_g rfl rfl).trans ?_; refine (vbnd_0 v_fail9).trans ?_))
        (first | (exact rfl) | (refine (vF_g rfl rfl).trans ?_; refine (vF_g rfl rfl).trans ?_; exact rfl) | (refine (vF_g rfl rfl).trans ?_; refine (vF_g rfl rfl).trans ?_; refine (vF_g rfl rfl).trans ?_; exact rfl) | (refine (vF_g rfl rfl).trans ?_; exact rfl))
      · have kv2 : oVb T p 7 20 ≠ 4294967295 := by omega
        rw [oCm_4 k0 kv2]
        refine ⟨fun w => absurd w n41, fun _ => ⟨_, ?_, pe_fl (om_tk h.1) tkq_3⟩⟩
        (first | (refine (vle2 (x := i) (y := 30) (by decide) (by omega)).trans ?_) | (refine (vF_g rfl rfl).trans ?_; refine (vF_g rfl rfl).trans ?_; refine (vle2 (x := i) (y := 30) (by decide) (by omega)).trans ?_) | (refine (vF_g rfl rfl).trans ?_; refine (vle2 (x := i) (y := 30) (by decide) (by omega)).trans ?_))
        (first | (refine (vbnd_1 e1).trans ?_) | (refine (vF_g rfl rfl).trans ?_; refine (vF_g rfl rfl).trans ?_; refine (vbnd_1 e1).trans ?_) | (refine (vF_g rfl rfl).trans ?_; refine (vbnd_1 e1).trans ?_))
        (first | (refine (vne (by omega) (by decide) n0).trans ?_) | (refine (vF_g rfl rfl).trans ?_; refine (vF_g rfl rfl).trans ?_; refine (vne (by omega) (by decide) n0).trans ?_) | (refine (vF_g rfl rfl).trans ?_; refine (vne (by omega) (by decide) n0).trans ?_))
        (first | (refine (vbnd_0 e2).trans ?_) | (refine (vF_g rfl rfl).trans ?_; refine (vF_g rfl rfl).trans ?_; refine (vbnd_0 e2).trans ?_) | (refine (vF_g rfl rfl).trans ?_; refine (vbnd_0 e2).trans ?_))
        (first | (refine (vne (x := oVb T p 7 20) (y := 4294967295) (by omega) (by decide) kv2).trans ?_) | (refine (vF_g rfl rfl).trans ?_; refine (vF_g rfl rfl).trans ?_; refine (vne (x := oVb T p 7 20) (y := 4294967295) (by omega) (by decide) kv2).trans ?_) | (refine (vF_g rfl rfl).trans ?_; refine (vne (x := oVb T p 7 20) (y := 4294967295) (by omega) (by decide) kv2).trans ?_))
        (first | (refine (vge2 (x := tk9 f T p 448 4) (y := 30) (by rw [(ps_tk h hB.1).2.2.2.1]; omega) (by rw [(ps_tk h hB.1).2.2.2.1]; omega)).trans ?_) | (refine (vF_g rfl rfl).trans ?_; refine (vF_g rfl rfl).trans ?_; refine (vge2 (x := tk9 f T p 448 4) (y := 30) (by rw [(ps_tk h hB.1).2.2.2.1]; omega) (by rw [(ps_tk h hB.1).2.2.2.1]; omega)).trans ?_) | (refine (vF_g rfl rfl).trans ?_; refine (vge2 (x := tk9 f T p 448 4) (y := 30) (by rw [(ps_tk h hB.1).2.2.2.1]; omega) (by rw [(ps_tk h hB.1).2.2.2.1]; omega)).trans ?_))
        (first | (refine (vbnd_0 v_fail9).trans ?_) | (refine (vF_g rfl rfl).trans ?_; refine (vF_g rfl rfl).trans ?_; refine (vbnd_0 v_fail9).trans ?_) | (refine (vF_g rfl rfl).trans ?_; refine (vbnd_0 v_fail9).trans ?_))
        (first | (exact rfl) | (refine (vF_g rfl rfl).trans ?_; refine (vF_g rfl rfl).trans ?_; exact rfl) | (refine (vF_g rfl rfl).trans ?_; refine (vF_g rfl rfl).trans ?_; refine (vF_g rfl rfl).trans ?_; exact rfl) | (refine (vF_g rfl rfl).trans ?_; exact rfl))
  | succ m ih =>
    intro p i F y f hi hF h
    obtain ⟨F1, rfl⟩ : ∃ F1, F = F1 + 7 := ⟨F - 7, by omega⟩
    have hx := om_tx h.1 hB.1
    have e1 := v_next9 (D := D + 4) hx h.2.1 h.2.2.1
    have k9 : tk9 f T p 446 2 ≤ 5 := kd9_l _
    have hk : ∀ q, tk9 f T p 446 2 = q ↔ tK T p = q := fun q => by rw [tkq_2]
    have ht := ps_tk h hB.1
    have t4 : tk9 f T p 448 4 = i := ht.2.2.2.1
    by_cases k0 : tK T p = 0
    · rw [oCm_0 k0]
      refine ⟨fun _ => ⟨_, ?_, ht.1, ht.2.2.2.2.1, ht.2.2.2.2.2⟩, fun w => absurd rfl w⟩
      (first | (refine (vle2 (x := i) (y := 30) (by decide) (by omega)).trans ?_) | (refine (vF_g rfl rfl).trans ?_; refine (vF_g rfl rfl).trans ?_; refine (vle2 (x := i) (y := 30) (by decide) (by omega)).trans ?_) | (refine (vF_g rfl rfl).trans ?_; refine (vle2 (x := i) (y := 30) (by decide) (by omega)).trans ?_))
      (first | (refine (vbnd_1 e1).trans ?_) | (refine (vF_g rfl rfl).trans ?_; refine (vF_g rfl rfl).trans ?_; refine (vbnd_1 e1).trans ?_) | (refine (vF_g rfl rfl).trans ?_; refine (vbnd_1 e1).trans ?_))
      (first | (refine (veq ((hk 0).mpr k0)).trans ?_) | (refine (vF_g rfl rfl).trans ?_; refine (vF_g rfl rfl).trans ?_; refine (veq ((hk 0).mpr k0)).trans ?_) | (refine (vF_g rfl rfl).trans ?_; refine (veq ((hk 0).mpr k0)).trans ?_))
      (first | (exact rfl) | (refine (vF_g rfl rfl).trans ?_; refine (vF_g rfl rfl).trans ?_; exact rfl) | (refine (vF_g rfl rfl).trans ?_; refine (vF_g rfl rfl).trans ?_; refine (vF_g rfl rfl).trans ?_; exact rfl) | (refine (vF_g rfl rfl).trans ?_; exact rfl))
    have e2 := v_verbRead (D := D + 3) (txC_tk (p := p) hx) h.2.2.1 tkq_2 tkq_3 tkq_4
    have n0 : tk9 f T p 446 2 ≠ 0 := fun w => k0 ((hk 0).mp w)
    rcases oVb_lt (T := T) (p := p) 7 20 (by decide) with kv | ⟨-, kv⟩
    · rw [oCm_1 k0 kv]
      rw [kv] at e2
      refine ⟨fun w => absurd w n01, fun _ => ⟨_, ?_, pe_fl (om_tk h.1) tkq_3⟩⟩
      (first | (refine (vle2 (x := i) (y := 30) (by decide) (by omega)).trans ?_) | (refine (vF_g rfl rfl).trans ?_; refine (vF_g rfl rfl).trans ?_; refine (vle2 (x := i) (y := 30) (by decide) (by omega)).trans ?_) | (refine (vF_g rfl rfl).trans ?_; refine (vle2 (x := i) (y := 30) (by decide) (by omega)).trans ?_))
      (first | (refine (vbnd_1 e1).trans ?_) | (refine (vF_g rfl rfl).trans ?_; refine (vF_g rfl rfl).trans ?_; refine (vbnd_1 e1).trans ?_) | (refine (vF_g rfl rfl).trans ?_; refine (vbnd_1 e1).trans ?_))
      (first | (refine (vne (by omega) (by decide) n0).trans ?_) | (refine (vF_g rfl rfl).trans ?_; refine (vF_g rfl rfl).trans ?_; refine (vne (by omega) (by decide) n0).trans ?_) | (refine (vF_g rfl rfl).trans ?_; refine (vne (by omega) (by decide) n0).trans ?_))
      (first | (refine (vbnd_0 e2).trans ?_) | (refine (vF_g rfl rfl).trans ?_; refine (vF_g rfl rfl).trans ?_; refine (vbnd_0 e2).trans ?_) | (refine (vF_g rfl rfl).trans ?_; refine (vbnd_0 e2).trans ?_))
      (first | (refine (veq rfl).trans ?_) | (refine (vF_g rfl rfl).trans ?_; refine (vF_g rfl rfl).trans ?_; refine (veq rfl).trans ?_) | (refine (vF_g rfl rfl).trans ?_; refine (veq rfl).trans ?_))
      (first | (refine (vbnd_0 v_fail9).trans ?_) | (refine (vF_g rfl rfl).trans ?_; refine (vF_g rfl rfl).trans ?_; refine (vbnd_0 v_fail9).trans ?_) | (refine (vF_g rfl rfl).trans ?_; refine (vbnd_0 v_fail9).trans ?_))
      (first | (exact rfl) | (refine (vF_g rfl rfl).trans ?_; refine (vF_g rfl rfl).trans ?_; exact rfl) | (refine (vF_g rfl rfl).trans ?_; refine (vF_g rfl rfl).trans ?_; refine (vF_g rfl rfl).trans ?_; exact rfl) | (refine (vF_g rfl rfl).trans ?_; exact rfl))
    have kv2 : oVb T p 7 20 ≠ 4294967295 := by omega
    have kv7 : oVb T p 7 20 < 7 := by omega
    generalize ev : oVb T p 7 20 = v at e2 kv kv2 kv7
    have hs : PSm B n (tE T p) i (vup (tk9 f T p) 449 i v) := ps_ar ht ⟨by decide, by decide⟩
    obtain ⟨a1, a2⟩ := p_par (D := D) (v := v) hB hs (by omega) kv7
    -- behind the parameters
    have ent : ∀ r, vB (vM MT0 (D + 6)) (vFn (vM MT0 (D + 6)) nb_X1_parse (F1 + 2)) ((2, 9, 10, 9, 0, 0, 0), []) [(5, 2, 0, 0, 0, 0, 0), (5, 0, 3, 0, 0, 0, 0), (5, 2, 1, 0, 0, 0, 0), (31, 4, 9, 3, 0, 0, 0)] 0 [vR 448, vR 7, vI i, vI v] [] (vup (tk9 f T p) 449 i v) = r → vFn (vM MT0 (D + 6)) nb_X1_parse (F1 + 7) 1 0 [vR 448, vR 7, vI i, y] [] f = r := by
      intro r hr
      (first | (refine (vle2 (x := i) (y := 30) (by decide) (by omega)).trans ?_) | (refine (vF_g rfl rfl).trans ?_; refine (vF_g rfl rfl).trans ?_; refine (vle2 (x := i) (y := 30) (by decide) (by omega)).trans ?_) | (refine (vF_g rfl rfl).trans ?_; refine (vle2 (x := i) (y := 30) (by decide) (by omega)).trans ?_))
      (first | (refine (vbnd_1 e1).trans ?_) | (refine (vF_g rfl rfl).trans ?_; refine (vF_g rfl rfl).trans ?_; refine (vbnd_1 e1).trans ?_) | (refine (vF_g rfl rfl).trans ?_; refine (vbnd_1 e1).trans ?_))
      (first | (refine (vne (by omega) (by decide) n0).trans ?_) | (refine (vF_g rfl rfl).trans ?_; refine (vF_g rfl rfl).trans ?_; refine (vne (by omega) (by decide) n0).trans ?_) | (refine (vF_g rfl rfl).trans ?_; refine (vne (by omega) (by decide) n0).trans ?_))
      (first | (refine (vbnd_0 e2).trans ?_) | (refine (vF_g rfl rfl).trans ?_; refine (vF_g rfl rfl).trans ?_; refine (vbnd_0 e2).trans ?_) | (refine (vF_g rfl rfl).trans ?_; refine (vbnd_0 e2).trans ?_))
      (first | (refine (vne (x := v) (y := 4294967295) (by omega) (by decide) kv2).trans ?_) | (refine (vF_g rfl rfl).trans ?_; refine (vF_g rfl rfl).trans ?_; refine (vne (x := v) (y := 4294967295) (by omega) (by decide) kv2).trans ?_) | (refine (vF_g rfl rfl).trans ?_; refine (vne (x := v) (y := 4294967295) (by omega) (by decide) kv2).trans ?_))
      (first | (refine (vlt (x := tk9 f T p 448 4) (y := 30) (by decide) (by rw [t4]; omega)).trans ?_) | (refine (vF_g rfl rfl).trans ?_; refine (vF_g rfl rfl).trans ?_; refine (vlt (x := tk9 f T p 448 4) (y := 30) (by decide) (by rw [t4]; omega)).trans ?_) | (refine (vF_g rfl rfl).trans ?_; refine (vlt (x := tk9 f T p 448 4) (y := 30) (by decide) (by rw [t4]; omega)).trans ?_))
      (first | (refine Eq.trans (b := gd (Nat.ble (tk9 f T p 448 4 + 1) 30) (vB (vM MT0 (D + 6)) (vFn (vM MT0 (D + 6)) nb_X1_parse (F1 + 2)) ((2, 9, 10, 9, 0, 0, 0), []) [(5, 2, 0, 0, 0, 0, 0), (5, 0, 3, 0, 0, 0, 0), (5, 2, 1, 0, 0, 0, 0), (31, 4, 9, 3, 0, 0, 0)] 0 [vR 448, vR 7, vI i, vI v] [] (vup (tk9 f T p) 449 (tk9 f T p 448 4) v))) rfl ?_) | (refine (vF_g rfl rfl).trans ?_; refine (vF_g rfl rfl).trans ?_; refine Eq.trans (b := gd (Nat.ble (tk9 f T p 448 4 + 1) 30) (vB (vM MT0 (D + 6)) (vFn (vM MT0 (D + 6)) nb_X1_parse (F1 + 2)) ((2, 9, 10, 9, 0, 0, 0), []) [(5, 2, 0, 0, 0, 0, 0), (5, 0, 3, 0, 0, 0, 0), (5, 2, 1, 0, 0, 0, 0), (31, 4, 9, 3, 0, 0, 0)] 0 [vR 448, vR 7, vI i, vI v] [] (vup (tk9 f T p) 449 (tk9 f T p 448 4) v))) rfl ?_) | (refine (vF_g rfl rfl).trans ?_; refine Eq.trans (b := gd (Nat.ble (tk9 f T p 448 4 + 1) 30) (vB (vM MT0 (D + 6)) (vFn (vM MT0 (D + 6)) nb_X1_parse (F1 + 2)) ((2, 9, 10, 9, 0, 0, 0), []) [(5, 2, 0, 0, 0, 0, 0), (5, 0, 3, 0, 0, 0, 0), (5, 2, 1, 0, 0, 0, 0), (31, 4, 9, 3, 0, 0, 0)] 0 [vR 448, vR 7, vI i, vI v] [] (vup (tk9 f T p) 449 (tk9 f T p 448 4) v))) rfl ?_))
      rw [t4, Nat.ble_eq_true_of_le (show i + 1 ≤ 30 by omega)]
      exact hr
    have bk := bk_Arg (T := T) (N := N) (c := c) (M := M) (d := d) (v := v) (p := tE T p) (fun p => oS T p fun p => (0, p))
    by_cases k1 : (oArg T N c M d v (tE T p) fun p => (0, p)).1 = 0
    rotate_left
    · have e9 : oOne T N c M d (oVb T p 7 20) (tE T p) = oArg T N c M d v (tE T p) fun p => (0, p) := by
        rw [ev]
        exact bk.2 k1
      have e8 : oCm T N c M d (m + 1) p = oOne T N c M d (oVb T p 7 20) (tE T p) := oCm_e k0 (by rw [ev]; exact kv2) (by rw [e9]; exact k1)
      rw [e8, e9]
      obtain ⟨g, e, hg⟩ := a2 k1
      refine ⟨fun w => absurd w k1, fun _ => ⟨g, ent _ ?_, hg⟩⟩
      (first | (refine (vbnd_0 e).trans ?_) | (refine (vF_g rfl rfl).trans ?_; refine (vF_g rfl rfl).trans ?_; refine (vbnd_0 e).trans ?_) | (refine (vF_g rfl rfl).trans ?_; refine (vbnd_0 e).trans ?_))
      (first | (refine (veq (x := 0) (y := 0) rfl).trans ?_) | (refine (vF_g rfl rfl).trans ?_; refine (vF_g rfl rfl).trans ?_; refine (veq (x := 0) (y := 0) rfl).trans ?_) | (refine (vF_g rfl rfl).trans ?_; refine (veq (x := 0) (y := 0) rfl).trans ?_))
      (first | (exact rfl) | (refine (vF_g rfl rfl).trans ?_; refine (vF_g rfl rfl).trans ?_; exact rfl) | (refine (vF_g rfl rfl).trans ?_; refine (vF_g rfl rfl).trans ?_; refine (vF_g rfl rfl).trans ?_; exact rfl) | (refine (vF_g rfl rfl).trans ?_; exact rfl))
    obtain ⟨g, e, hg⟩ := a1 k1
    obtain ⟨s1, s2⟩ := p_semi (D := D + 3) hB hg
    generalize (oArg T N c M d v (tE T p) fun p => (0, p)).2 = p2 at bk hg s1 s2
    have e9 : oOne T N c M d (oVb T p 7 20) (tE T p) = oS T p2 fun p => (0, p) := by
      rw [ev]
      exact bk.1 k1
    by_cases k3 : tK T p2 = 3
    · obtain ⟨g2, e3, hg2⟩ := s1 k3
      have e7 : oOne T N c M d (oVb T p 7 20) (tE T p) = (0, tE T p2) := e9.trans (oS_0 k3)
      have e8 : oCm T N c M d (m + 1) p = oCm T N c M d m (tE T p2) := by
        have := oCm_s (T := T) (N := N) (c := c) (M := M) (d := d) (p := p) (m := m) k0 (by rw [ev]; exact kv2) (by rw [e7])
        rw [e7] at this
        exact this
      rw [e8]
      have hg3 : PSm B n (tE T p2) (i + 1) (vup g2 448 4 (i + 1)) := ⟨om_up hg2.1 (Or.inr ⟨by decide, by decide⟩), (vup_ne (Or.inl (by decide))).trans hg2.2.1, hg2.2.2.1, vup_eq, (vup_ne (Or.inl (by decide))).trans hg2.2.2.2.2.1, (vup_ne (Or.inl (by decide))).trans hg2.2.2.2.2.2⟩
      have st : ∀ r, vFn (vM MT0 (D + 6)) nb_X1_parse F1 1 0 [vR 448, vR 7, vI (i + 1), vI v] [] (vup g2 448 4 (i + 1)) = r → vFn (vM MT0 (D + 6)) nb_X1_parse (F1 + 7) 1 0 [vR 448, vR 7, vI i, y] [] f = r := by
        intro r hr
        refine ent r ?_
        (first | (refine (vbnd_0 e).trans ?_) | (refine (vF_g rfl rfl).trans ?_; refine (vF_g rfl rfl).trans ?_; refine (vbnd_0 e).trans ?_) | (refine (vF_g rfl rfl).trans ?_; refine (vbnd_0 e).trans ?_))
        (first | (refine (vgt (x := 1) (y := 0) (by decide) (by decide)).trans ?_) | (refine (vF_g rfl rfl).trans ?_; refine (vF_g rfl rfl).trans ?_; refine (vgt (x := 1) (y := 0) (by decide) (by decide)).trans ?_) | (refine (vF_g rfl rfl).trans ?_; refine (vgt (x := 1) (y := 0) (by decide) (by decide)).trans ?_))
        (first | (refine (vbnd_0 e3).trans ?_) | (refine (vF_g rfl rfl).trans ?_; refine (vF_g rfl rfl).trans ?_; refine (vbnd_0 e3).trans ?_) | (refine (vF_g rfl rfl).trans ?_; refine (vbnd_0 e3).trans ?_))
        (first | (refine (vgt (x := 1) (y := 0) (by decide) (by decide)).trans ?_) | (refine (vF_g rfl rfl).trans ?_; refine (vF_g rfl rfl).trans ?_; refine (vgt (x := 1) (y := 0) (by decide) (by decide)).trans ?_) | (refine (vF_g rfl rfl).trans ?_; refine (vgt (x := 1) (y := 0) (by decide) (by decide)).trans ?_))
        (first | (refine Eq.trans (b := vFn (vM MT0 (D + 6)) nb_X1_parse F1 1 0 [vR 448, vR 7, vI ((i + 1) % 4294967296), vI v] [] (vup g2 448 4 ((g2 448 4 + 1) % 4294967296))) rfl ?_) | (refine (vF_g rfl rfl).trans ?_; refine (vF_g rfl rfl).trans ?_; refine Eq.trans (b := vFn (vM MT0 (D + 6)) nb_X1_parse F1 1 0 [vR 448, vR 7, vI ((i + 1) % 4294967296), vI v] [] (vup g2 448 4 ((g2 448 4 + 1) % 4294967296))) rfl ?_) | (refine (vF_g rfl rfl).trans ?_; refine Eq.trans (b := vFn (vM MT0 (D + 6)) nb_X1_parse F1 1 0 [vR 448, vR 7, vI ((i + 1) % 4294967296), vI v] [] (vup g2 448 4 ((g2 448 4 + 1) % 4294967296))) rfl ?_))
        rw [hg2.2.2.2.1, Nat.mod_eq_of_lt (show i + 1 < 4294967296 by omega)]
        exact hr
      obtain ⟨z1, z2⟩ := ih (tE T p2) (i + 1) F1 (vI v) (vup g2 448 4 (i + 1)) (by omega) (by omega) hg3
      refine ⟨fun w => ?_, fun w => ?_⟩
      · obtain ⟨g9, e5, hg9⟩ := z1 w
        exact ⟨g9, st _ e5, hg9⟩
      · obtain ⟨g9, e5, hg9⟩ := z2 w
        exact ⟨g9, st _ e5, hg9⟩
    · obtain ⟨g2, e3, hg2⟩ := s2 k3
      have e7 : oOne T N c M d (oVb T p 7 20) (tE T p) = (1, tS T p2) := e9.trans (oS_1 k3)
      have e8 : oCm T N c M d (m + 1) p = oOne T N c M d (oVb T p 7 20) (tE T p) := oCm_e k0 (by rw [ev]; exact kv2) (by rw [e7]; exact fun w => n01 w)
      rw [e8, e7]
      refine ⟨fun w => absurd w n01, fun _ => ⟨g2, ent _ ?_, hg2⟩⟩
      (first | (refine (vbnd_0 e).trans ?_) | (refine (vF_g rfl rfl).trans ?_; refine (vF_g rfl rfl).trans ?_; refine (vbnd_0 e).trans ?_) | (refine (vF_g rfl rfl).trans ?_; refine (vbnd_0 e).trans ?_))
      (first | (refine (vgt (x := 1) (y := 0) (by decide) (by decide)).trans ?_) | (refine (vF_g rfl rfl).trans ?_; refine (vF_g rfl rfl).trans ?_; refine (vgt (x := 1) (y := 0) (by decide) (by decide)).trans ?_) | (refine (vF_g rfl rfl).trans ?_; refine (vgt (x := 1) (y := 0) (by decide) (by decide)).trans ?_))
      (first | (refine (vbnd_0 e3).trans ?_) | (refine (vF_g rfl rfl).trans ?_; refine (vF_g rfl rfl).trans ?_; refine (vbnd_0 e3).trans ?_) | (refine (vF_g rfl rfl).trans ?_; refine (vbnd_0 e3).trans ?_))
      (first | (refine (veq (x := 0) (y := 0) rfl).trans ?_) | (refine (vF_g rfl rfl).trans ?_; refine (vF_g rfl rfl).trans ?_; refine (veq (x := 0) (y := 0) rfl).trans ?_) | (refine (vF_g rfl rfl).trans ?_; refine (veq (x := 0) (y := 0) rfl).trans ?_))
      (first | (exact rfl) | (refine (vF_g rfl rfl).trans ?_; refine (vF_g rfl rfl).trans ?_; exact rfl) | (refine (vF_g rfl rfl).trans ?_; refine (vF_g rfl rfl).trans ?_; refine (vF_g rfl rfl).trans ?_; exact rfl) | (refine (vF_g rfl rfl).trans ?_; exact rfl))
/-- the program's parser of commands is oCm -/
theorem v_cparse {D : Nat} {f : Vw} (hB : CB f n T N c M d) : ((oCm T N c M d 30 0).1 = 0 → ∃ g, vM MT0 (D + 7) 7 [vR 448, vR 7] f = some ((0, 0), vI 1, g) ∧ PEm f 0 4294967295 g) ∧ ((oCm T N c M d 30 0).1 ≠ 0 → ∃ g, vM MT0 (D + 7) 7 [vR 448, vR 7] f = some ((0, 0), vI 0, g) ∧ PEm f (oCm T N c M d 30 0).1 (oCm T N c M d 30 0).2 g) := by
  have hb : vM MT0 (D + 6) 45 [vR 446] f = some ((1, 0), vW 3, vup (vup (vup f 446 1 0) 446 6 0) 446 7 4294967295) := v_begin (D := D + 5)
  have h0 : PSm f n 0 0 (vup (vup (vup (vup f 446 1 0) 446 6 0) 446 7 4294967295) 448 4 0) := ⟨om_up (om_up (om_up (om_up (fun a b _ _ => rfl) (Or.inl rfl)) (Or.inl rfl)) (Or.inl rfl)) (Or.inr ⟨by decide, by decide⟩), (vup_ne (Or.inl (by decide))).trans ((vup_ne (Or.inr (by decide))).trans ((vup_ne (Or.inr (by decide))).trans vup_eq)), Nat.zero_le _, vup_eq, (vup_ne (Or.inl (by decide))).trans ((vup_ne (Or.inr (by decide))).trans vup_eq), (vup_ne (Or.inl (by decide))).trans vup_eq⟩
  obtain ⟨F, hF, go⟩ := vM_at (D := D + 6) (y := 7) (as := [vR 448, vR 7]) (f := f) rfl rfl rfl rfl
  have st : ∀ r, vFn (vM MT0 (D + 6)) nb_X1_parse (F + 59) 1 0 [vR 448, vR 7, vI 0, vW 3] [] (vup (vup (vup (vup f 446 1 0) 446 6 0) 446 7 4294967295) 448 4 0) = r → vM MT0 (D + 7) 7 [vR 448, vR 7] f = r := by
    intro r hr
    refine go r ?_
    (first | (refine (vbnd_1 hb).trans ?_) | (refine (vF_g rfl rfl).trans ?_; refine (vF_g rfl rfl).trans ?_; refine (vbnd_1 hb).trans ?_) | (refine (vF_g rfl rfl).trans ?_; refine (vbnd_1 hb).trans ?_))
    exact hr
  obtain ⟨z1, z2⟩ := v_cmds (D := D) hB 30 0 0 (F + 59) (vW 3) (vup (vup (vup (vup f 446 1 0) 446 6 0) 446 7 4294967295) 448 4 0) (by omega) (by omega) h0
  refine ⟨fun w => ?_, fun w => ?_⟩
  · obtain ⟨g, e, hg⟩ := z1 w
    exact ⟨g, st _ e, hg⟩
  · obtain ⟨g, e, hg⟩ := z2 w
    exact ⟨g, st _ e, hg⟩
end CMD
