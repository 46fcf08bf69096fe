/-! names -/
/-- the letters of a word, the last first; as one number -/
def nmr (T : Nat → Nat) (s : Nat) : Nat → List Nat
  | 0 => []
  | z + 1 => T (s + z) :: nmr T s z
def pkr : List Nat → Nat
  | [] => 0
  | c :: l => pkr l * 256 + c
theorem pkr_lt {l : List Nat} (h : ∀ c ∈ l, c < 256) : pkr l < 256 ^ l.length := by
  induction l with
  | nil => exact Nat.one_pos
  | cons c l ih =>
    have h1 := ih (fun x hx => h x (List.mem_cons_of_mem _ hx))
    have h2 := h c List.mem_cons_self
    rw [List.length_cons, Nat.pow_succ]
    show pkr l * 256 + c < 256 ^ l.length * 256
    omega
theorem pkr_inj : ∀ {l m : List Nat}, (∀ c ∈ l, 0 < c ∧ c < 256) → (∀ c ∈ m, 0 < c ∧ c < 256) → pkr l = pkr m → l = m := by
  intro l
  induction l with
  | nil =>
    intro m _ hm h
    cases m with
    | nil => rfl
    | cons c m =>
      have h1 := hm c List.mem_cons_self
      have h2 : 0 = pkr m * 256 + c := h
      omega
  | cons c l ih =>
    intro m hl hm h
    have h1 := hl c List.mem_cons_self
    cases m with
    | nil =>
      have h2 : pkr l * 256 + c = 0 := h
      omega
    | cons d m =>
      have h3 := hm d List.mem_cons_self
      have h2 : pkr l * 256 + c = pkr m * 256 + d := h
      have e : c = d := by omega
      subst e
      rw [ih (fun x hx => hl x (List.mem_cons_of_mem _ hx)) (fun x hx => hm x (List.mem_cons_of_mem _ hx)) (by omega)]
theorem toNL_lNv (n : Nat) : toNL (lN n) = n % 18446744073709551616 := by
  unfold toNL lN
  simp
theorem lsh8 {a : Nat} (h : a < 281474976710656) : g_lshl a 8 = a * 256 := by
  unfold g_lshl
  have e : ((nI 8).toInt64 &&& 63) = 8 := by decide
  rw [e]
  unfold toNL lN
  have e2 : ((Int64.ofNat a <<< (8 : Int64)).toUInt64).toNat = ((Int64.ofNat a).toBitVec <<< 8).toNat := by
    (first | (exact rfl) | (refine (vF_g rfl rfl).trans ?_; refine (vF_g rfl rfl).trans ?_; exact rfl) | (refine (vF_g rfl rfl).trans ?_; refine (vF_g rfl rfl).trans ?_; refine (vF_g rfl rfl).trans ?_; exact rfl) | (refine (vF_g rfl rfl).trans ?_; exact rfl))
  rw [e2, BitVec.toNat_shiftLeft, Nat.shiftLeft_eq]
  have e3 : (Int64.ofNat a).toBitVec.toNat = a % 18446744073709551616 := by
    simp
  rw [e3]
  omega
theorem lor8 {a c : Nat} (h : a < 281474976710656) (hc : c < 256) : g_lor (a * 256) (toNL (nI c).toInt64) = a * 256 + c := by
  unfold g_lor
  have e1 : toNL (nI c).toInt64 = c := by
    have h1 := lsg_i2l c
    rw [sg_eq (show c ≤ 2147483647 by omega)] at h1
    have h2 : toNL (nI c).toInt64 < 18446744073709551616 := (nI c).toInt64.toUInt64.toNat_lt
    unfold lsg at h1
    omega
  rw [e1]
  have e2 : toNL (lN (a * 256) ||| lN c) = (toNL (lN (a * 256))) ||| (toNL (lN c)) := by
    unfold toNL
    (first | (exact rfl) | (refine (vF_g rfl rfl).trans ?_; refine (vF_g rfl rfl).trans ?_; exact rfl) | (refine (vF_g rfl rfl).trans ?_; refine (vF_g rfl rfl).trans ?_; refine (vF_g rfl rfl).trans ?_; exact rfl) | (refine (vF_g rfl rfl).trans ?_; exact rfl))
  rw [e2, toNL_lNv, toNL_lNv, Nat.mod_eq_of_lt (show a * 256 < 18446744073709551616 by omega), Nat.mod_eq_of_lt (show c < 18446744073709551616 by omega)]
  have e3 : a * 256 = a <<< 8 := by rw [Nat.shiftLeft_eq]
  rw [e3, ← Nat.shiftLeft_add_eq_or_of_lt (show c < 2 ^ 8 by omega)]
theorem na_loop {D s z n : Nat} {T : Nat → Nat} {f : Vw} {x6 : AV} (hx : TxC f n T) (hs : s ≤ 900) (hz : z ≤ 6) : ∀ (m i F : Nat) (x6 : AV), i + m = z → 4 * m + 2 ≤ F → (∀ j, j < i → 97 ≤ T (s + j) ∧ T (s + j) ≤ 122) → (∀ j, j < z → 97 ≤ T (s + j) ∧ T (s + j) ≤ 122) → vFn (vM MT0 (D + 1)) nb_X0_nameAt F 4 0 [vR 1, vI s, vI z, vJ (pkr (nmr T s i)), vW 3, vI i, x6] [] f = some ((0, 0), vJ (pkr (nmr T s z)), f) := by
  intro m
  induction m with
  | zero =>
    intro i F x6 hi hF h1 h2
    obtain ⟨F1, rfl⟩ : ∃ F1, F = F1 + 2 := ⟨F - 2, by omega⟩
    have e : i = z := by omega
    subst e
    (first | (refine (vge2 (x := i) (y := i) (by omega) (Nat.le_refl _)).trans ?_) | (refine (vF_g rfl rfl).trans ?_; refine (vF_g rfl rfl).trans ?_; refine (vge2 (x := i) (y := i) (by omega) (Nat.le_refl _)).trans ?_) | (refine (vF_g rfl rfl).trans ?_; refine (vge2 (x := i) (y := i) (by omega) (Nat.le_refl _)).trans ?_))
    (first | (exact rfl) | (refine (vF_g rfl rfl).trans ?_; refine (vF_g rfl rfl).trans ?_; exact rfl) | (refine (vF_g rfl rfl).trans ?_; refine (vF_g rfl rfl).trans ?_; refine (vF_g rfl rfl).trans ?_; exact rfl) | (refine (vF_g rfl rfl).trans ?_; exact rfl))
  | succ m ih =>
    intro i F x6 hi hF h1 h2
    obtain ⟨F1, rfl⟩ : ∃ F1, F = F1 + 4 := ⟨F - 4, by omega⟩
    have hl := h2 i (by omega)
    have hn := hx.1
    have hq : (s + i) % 4294967296 = s + i := Nat.mod_eq_of_lt (by omega)
    have hp : pkr (nmr T s i) < 256 ^ i := by
      have e : (nmr T s i).length = i := by
        clear hi hF h1 h2 hl hq ih
        induction i with
        | zero => rfl
        | succ i ih => rw [nmr, List.length_cons, ih]
      have h3 := pkr_lt (l := nmr T s i) (by
        intro c hc
        have : ∀ i, (∀ j, j < i → T (s + j) ≤ 122) → ∀ c ∈ nmr T s i, c < 256 := by
          intro i
          induction i with
          | zero => intro _ c hc; cases hc
          | succ i ih =>
            intro h c hc
            rcases List.mem_cons.mp hc with e | hc
            · rw [e]
              have := h i (by omega)
              omega
            · exact ih (fun j hj => h j (by omega)) c hc
        exact this i (fun j hj => (h1 j hj).2) c hc)
      rw [e] at h3
      exact h3
    have hp6 : pkr (nmr T s i) < 281474976710656 := Nat.lt_of_lt_of_le hp (Nat.le_trans (Nat.pow_le_pow_right (by decide) (show i ≤ 6 by omega)) (by decide))
    (first | (refine (vlt (x := i) (y := z) (by omega) (by omega)).trans ?_) | (refine (vF_g rfl rfl).trans ?_; refine (vF_g rfl rfl).trans ?_; refine (vlt (x := i) (y := z) (by omega) (by omega)).trans ?_) | (refine (vF_g rfl rfl).trans ?_; refine (vlt (x := i) (y := z) (by omega) (by omega)).trans ?_))
    (first | (refine (vbnd_0 (v_byteAt (i := (s + i) % 4294967296) (f := f) (by rw [hq]; omega) (by rw [hx.2.1]; exact hx.1))).trans ?_) | (refine (vF_g rfl rfl).trans ?_; refine (vF_g rfl rfl).trans ?_; refine (vbnd_0 (v_byteAt (i := (s + i) % 4294967296) (f := f) (by rw [hq]; omega) (by rw [hx.2.1]; exact hx.1))).trans ?_) | (refine (vF_g rfl rfl).trans ?_; refine (vbnd_0 (v_byteAt (i := (s + i) % 4294967296) (f := f) (by rw [hq]; omega) (by rw [hx.2.1]; exact hx.1))).trans ?_))
    rw [hq, hx.2.2.1]
    (first | (refine (vge2 (x := T (s + i)) (y := 97) (by omega) hl.1).trans ?_) | (refine (vF_g rfl rfl).trans ?_; refine (vF_g rfl rfl).trans ?_; refine (vge2 (x := T (s + i)) (y := 97) (by omega) hl.1).trans ?_) | (refine (vF_g rfl rfl).trans ?_; refine (vge2 (x := T (s + i)) (y := 97) (by omega) hl.1).trans ?_))
    (first | (refine (vle2 (x := T (s + i)) (y := 122) (by decide) hl.2).trans ?_) | (refine (vF_g rfl rfl).trans ?_; refine (vF_g rfl rfl).trans ?_; refine (vle2 (x := T (s + i)) (y := 122) (by decide) hl.2).trans ?_) | (refine (vF_g rfl rfl).trans ?_; refine (vle2 (x := T (s + i)) (y := 122) (by decide) hl.2).trans ?_))
    (first | (refine Eq.trans (b := vFn (vM MT0 (D + 1)) nb_X0_nameAt F1 4 0 [vR 1, vI s, vI z, vJ (g_lor (g_lshl (pkr (nmr T s i)) 8) (toNL (nI (T (s + i))).toInt64)), vW 3, vI ((i + 1) % 4294967296), vI (T (s + i))] [] f) rfl ?_) | (refine (vF_g rfl rfl).trans ?_; refine (vF_g rfl rfl).trans ?_; refine Eq.trans (b := vFn (vM MT0 (D + 1)) nb_X0_nameAt F1 4 0 [vR 1, vI s, vI z, vJ (g_lor (g_lshl (pkr (nmr T s i)) 8) (toNL (nI (T (s + i))).toInt64)), vW 3, vI ((i + 1) % 4294967296), vI (T (s + i))] [] f) rfl ?_) | (refine (vF_g rfl rfl).trans ?_; refine Eq.trans (b := vFn (vM MT0 (D + 1)) nb_X0_nameAt F1 4 0 [vR 1, vI s, vI z, vJ (g_lor (g_lshl (pkr (nmr T s i)) 8) (toNL (nI (T (s + i))).toInt64)), vW 3, vI ((i + 1) % 4294967296), vI (T (s + i))] [] f) rfl ?_))
    rw [lsh8 hp6, lor8 hp6 (by omega), Nat.mod_eq_of_lt (show i + 1 < 4294967296 by omega)]
    exact ih (i + 1) F1 (vI (T (s + i))) (by omega) (by omega) (fun j hj => h2 j (by omega)) h2
theorem v_nameAt {D s z n : Nat} {T : Nat → Nat} {f : Vw} (hx : TxC f n T) (hs : s ≤ 900) (hz1 : 1 ≤ z) (hz : z ≤ 6) (h2 : ∀ j, j < z → 97 ≤ T (s + j) ∧ T (s + j) ≤ 122) : vM MT0 (D + 2) 5 [vR 1, vI s, vI z] f = some ((0, 0), vJ (pkr (nmr T s z)), f) := by
  refine vM_go rfl rfl rfl rfl fun F hF => ?_
  (first | (refine (vge2 (x := z) (y := 1) (by omega) hz1).trans ?_) | (refine (vF_g rfl rfl).trans ?_; refine (vF_g rfl rfl).trans ?_; refine (vge2 (x := z) (y := 1) (by omega) hz1).trans ?_) | (refine (vF_g rfl rfl).trans ?_; refine (vge2 (x := z) (y := 1) (by omega) hz1).trans ?_))
  (first | (refine (vle2 (x := z) (y := 6) (by decide) hz).trans ?_) | (refine (vF_g rfl rfl).trans ?_; refine (vF_g rfl rfl).trans ?_; refine (vle2 (x := z) (y := 6) (by decide) hz).trans ?_) | (refine (vF_g rfl rfl).trans ?_; refine (vle2 (x := z) (y := 6) (by decide) hz).trans ?_))
  (first | (refine Eq.trans (b := vFn (vM MT0 (D + 1)) nb_X0_nameAt (F + 57) 4 0 [vR 1, vI s, vI z, vJ (pkr (nmr T s 0)), vW 3, vI 0, vW 3] [] f) rfl ?_) | (refine (vF_g rfl rfl).trans ?_; refine (vF_g rfl rfl).trans ?_; refine Eq.trans (b := vFn (vM MT0 (D + 1)) nb_X0_nameAt (F + 57) 4 0 [vR 1, vI s, vI z, vJ (pkr (nmr T s 0)), vW 3, vI 0, vW 3] [] f) rfl ?_) | (refine (vF_g rfl rfl).trans ?_; refine Eq.trans (b := vFn (vM MT0 (D + 1)) nb_X0_nameAt (F + 57) 4 0 [vR 1, vI s, vI z, vJ (pkr (nmr T s 0)), vW 3, vI 0, vW 3] [] f) rfl ?_))
  exact na_loop (x6 := vW 3) hx hs hz z 0 (F + 57) (vW 3) (by omega) (by omega) (fun j hj => by omega) h2
