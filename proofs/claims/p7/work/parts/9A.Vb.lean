section
/-! the reference's numbers -/
noncomputable def nfold (T : Nat → Nat) (s : Nat) : Nat → Nat → Nat → Nat
  | 0, _, v => v
  | m + 1, q, v => if kd9 (T q) = 2 then nfold T s m (q + 1) (if q - s < 4 then vstep v (T q) else v) else v
theorem nu_loop {D n s lo hi : Nat} {T : Nat → Nat} : ∀ (m q v c F : Nat) (g : Vw), c + 5 * m + 2 ≤ F → TxR g n T → g 452 17 = q → g 452 18 = s → s ≤ q → q ≤ n → n - q ≤ m → ∃ c', c ≤ c' ∧ vFn (vM MT0 (D + 1)) nb_X11_number F 3 0 [vR 452, vI lo, vI hi, vI v] [] g = vFn (vM MT0 (D + 1)) nb_X11_number c' 8 0 [vR 452, vI lo, vI hi, vI (nfold T s m q v)] [] (vup g 452 17 (rn T 2 m q)) := by
  have out : ∀ (q v F : Nat) (g : Vw), TxR g n T → g 452 17 = q → q ≤ n → kd9 (T q) ≠ 2 → vFn (vM MT0 (D + 1)) nb_X11_number (F + 1) 3 0 [vR 452, vI lo, vI hi, vI v] [] g = vFn (vM MT0 (D + 1)) nb_X11_number F 8 0 [vR 452, vI lo, vI hi, vI v] [] g := by
    intro q v F g hx h1 h4 h5
    have hn := hx.1
    (first | (refine (vbnd_0 (v_byteR (i := g 452 17) (f := g) (by rw [h1]; omega) (by rw [hx.2.1]; exact hx.1))).trans ?_) | (refine (vF_g rfl rfl).trans ?_; refine (vF_g rfl rfl).trans ?_; refine (vbnd_0 (v_byteR (i := g 452 17) (f := g) (by rw [h1]; omega) (by rw [hx.2.1]; exact hx.1))).trans ?_) | (refine (vF_g rfl rfl).trans ?_; refine (vbnd_0 (v_byteR (i := g 452 17) (f := g) (by rw [h1]; omega) (by rw [hx.2.1]; exact hx.1))).trans ?_))
    (first | (refine (vbnd_0 (v_in (x := toNL (nI (btR g (g 452 17))).toInt64) (a := 48) (b := 57) (f := g))).trans ?_) | (refine (vF_g rfl rfl).trans ?_; refine (vF_g rfl rfl).trans ?_; refine (vbnd_0 (v_in (x := toNL (nI (btR g (g 452 17))).toInt64) (a := 48) (b := 57) (f := g))).trans ?_) | (refine (vF_g rfl rfl).trans ?_; refine (vbnd_0 (v_in (x := toNL (nI (btR g (g 452 17))).toInt64) (a := 48) (b := 57) (f := g))).trans ?_))
    rw [h1, hx.2.2.1, if_neg (fun w => h5 (kd9_2.mpr ((in_9 (hx.2.2.2.1 q) (by decide) (by decide)).mp w)))]
    (first | (exact veq (x := 0) (y := 0) rfl) | (refine (vF_g rfl rfl).trans ?_; refine (vF_g rfl rfl).trans ?_; exact veq (x := 0) (y := 0) rfl) | (refine (vF_g rfl rfl).trans ?_; exact veq (x := 0) (y := 0) rfl))
  intro m
  induction m with
  | zero =>
    intro q v c F g hF hx h1 h2 h3 h4 h5
    obtain ⟨F1, rfl⟩ : ∃ F1, F = F1 + 1 := ⟨F - 1, by omega⟩
    refine ⟨F1, by omega, ?_⟩
    rw [show rn T 2 0 q = q from rfl, vup_id h1]
    exact out q v F1 g hx h1 h4 (by rw [hx.2.2.2.2 q (by omega)]; decide)
  | succ m ih =>
    intro q v c F g hF hx h1 h2 h3 h4 h5
    by_cases w : kd9 (T q) = 2
    · have hq : q < n := Nat.lt_of_not_le fun x => by
        rw [hx.2.2.2.2 q x] at w
        exact absurd w (by decide)
      have hn := hx.1
      obtain ⟨F1, rfl⟩ : ∃ F1, F = F1 + 4 := ⟨F - 4, by omega⟩
      obtain ⟨c', k1, k2⟩ := ih (q + 1) (if q - s < 4 then vstep v (T q) else v) c F1 (vup g 452 17 (q + 1)) (by omega) (txR_up (by decide) hx) vup_eq (by rw [vup_ne (Or.inr (by decide))]; exact h2) (by omega) (by omega) (by omega)
      refine ⟨c', k1, ?_⟩
      (first | (refine (vbnd_0 (v_byteR (i := g 452 17) (f := g) (by rw [h1]; omega) (by rw [hx.2.1]; exact hx.1))).trans ?_) | (refine (vF_g rfl rfl).trans ?_; refine (vF_g rfl rfl).trans ?_; refine (vbnd_0 (v_byteR (i := g 452 17) (f := g) (by rw [h1]; omega) (by rw [hx.2.1]; exact hx.1))).trans ?_) | (refine (vF_g rfl rfl).trans ?_; refine (vbnd_0 (v_byteR (i := g 452 17) (f := g) (by rw [h1]; omega) (by rw [hx.2.1]; exact hx.1))).trans ?_))
      (first | (refine (vbnd_0 (v_in (x := toNL (nI (btR g (g 452 17))).toInt64) (a := 48) (b := 57) (f := g))).trans ?_) | (refine (vF_g rfl rfl).trans ?_; refine (vF_g rfl rfl).trans ?_; refine (vbnd_0 (v_in (x := toNL (nI (btR g (g 452 17))).toInt64) (a := 48) (b := 57) (f := g))).trans ?_) | (refine (vF_g rfl rfl).trans ?_; refine (vbnd_0 (v_in (x := toNL (nI (btR g (g 452 17))).toInt64) (a := 48) (b := 57) (f := g))).trans ?_))
      rw [h1, hx.2.2.1, if_pos ((in_9 (hx.2.2.2.1 q) (by decide) (by decide)).mpr (kd9_2.mp w))]
      (first | (refine (vgt (x := 1) (y := 0) (by decide) (by decide)).trans ?_) | (refine (vF_g rfl rfl).trans ?_; refine (vF_g rfl rfl).trans ?_; refine (vgt (x := 1) (y := 0) (by decide) (by decide)).trans ?_) | (refine (vF_g rfl rfl).trans ?_; refine (vgt (x := 1) (y := 0) (by decide) (by decide)).trans ?_))
      have hd : g_sub (g 452 17) (g 452 18) = q - s := by rw [h1, h2]; unfold g_sub; omega
      rw [show nfold T s (m + 1) q v = nfold T s m (q + 1) (if q - s < 4 then vstep v (T q) else v) from if_pos w, show rn T 2 (m + 1) q = rn T 2 m (q + 1) from if_pos w]
      have e7 : ∀ v', vFn (vM MT0 (D + 1)) nb_X11_number (F1 + 1) 7 0 [vR 452, vI lo, vI hi, vI v] [vI v'] g = vFn (vM MT0 (D + 1)) nb_X11_number F1 3 0 [vR 452, vI lo, vI hi, vI v'] [] (vup g 452 17 (q + 1)) := by
        intro v'
        (first | (refine Eq.trans (b := vFn (vM MT0 (D + 1)) nb_X11_number F1 3 0 [vR 452, vI lo, vI hi, vI v'] [] (vup g 452 17 ((g 452 17 + 1) % 4294967296))) rfl ?_) | (refine (vF_g rfl rfl).trans ?_; refine (vF_g rfl rfl).trans ?_; refine Eq.trans (b := vFn (vM MT0 (D + 1)) nb_X11_number F1 3 0 [vR 452, vI lo, vI hi, vI v'] [] (vup g 452 17 ((g 452 17 + 1) % 4294967296))) rfl ?_) | (refine (vF_g rfl rfl).trans ?_; refine Eq.trans (b := vFn (vM MT0 (D + 1)) nb_X11_number F1 3 0 [vR 452, vI lo, vI hi, vI v'] [] (vup g 452 17 ((g 452 17 + 1) % 4294967296))) rfl ?_))
        rw [h1, Nat.mod_eq_of_lt (show q + 1 < 4294967296 by omega)]
      by_cases z : q - s < 4
      · rw [if_pos z] at k2 ⊢
        (first | (refine (vlt (x := gB9 0 (g 452 17) (g 452 18)) (y := 4) (by decide) (by rw [gB_0, hd]; exact z)).trans ?_) | (refine (vF_g rfl rfl).trans ?_; refine (vF_g rfl rfl).trans ?_; refine (vlt (x := gB9 0 (g 452 17) (g 452 18)) (y := 4) (by decide) (by rw [gB_0, hd]; exact z)).trans ?_) | (refine (vF_g rfl rfl).trans ?_; refine (vlt (x := gB9 0 (g 452 17) (g 452 18)) (y := 4) (by decide) (by rw [gB_0, hd]; exact z)).trans ?_))
        (first | (refine (vbnd_0 (v_byteR (i := g 452 17) (f := g) (by rw [h1]; omega) (by rw [hx.2.1]; exact hx.1))).trans ?_) | (refine (vF_g rfl rfl).trans ?_; refine (vF_g rfl rfl).trans ?_; refine (vbnd_0 (v_byteR (i := g 452 17) (f := g) (by rw [h1]; omega) (by rw [hx.2.1]; exact hx.1))).trans ?_) | (refine (vF_g rfl rfl).trans ?_; refine (vbnd_0 (v_byteR (i := g 452 17) (f := g) (by rw [h1]; omega) (by rw [hx.2.1]; exact hx.1))).trans ?_))
        (first | (refine Eq.trans (b := vFn (vM MT0 (D + 1)) nb_X11_number (F1 + 1) 7 0 [vR 452, vI lo, vI hi, vI v] [vI (gB9 0 ((gB9 1 10 v + btR g (g 452 17)) % 4294967296) 48)] g) rfl ?_) | (refine (vF_g rfl rfl).trans ?_; refine (vF_g rfl rfl).trans ?_; refine Eq.trans (b := vFn (vM MT0 (D + 1)) nb_X11_number (F1 + 1) 7 0 [vR 452, vI lo, vI hi, vI v] [vI (gB9 0 ((gB9 1 10 v + btR g (g 452 17)) % 4294967296) 48)] g) rfl ?_) | (refine (vF_g rfl rfl).trans ?_; refine Eq.trans (b := vFn (vM MT0 (D + 1)) nb_X11_number (F1 + 1) 7 0 [vR 452, vI lo, vI hi, vI v] [vI (gB9 0 ((gB9 1 10 v + btR g (g 452 17)) % 4294967296) 48)] g) rfl ?_))
        rw [gB_0, gB_1, e7, h1, hx.2.2.1, g_imul_c 10 v]
        refine Eq.trans k2 ?_
        rw [vup_vup]
      · rw [if_neg z] at k2 ⊢
        (first | (refine (vge2 (x := gB9 0 (g 452 17) (g 452 18)) (y := 4) (by rw [gB_0, hd]; omega) (by rw [gB_0, hd]; omega)).trans ?_) | (refine (vF_g rfl rfl).trans ?_; refine (vF_g rfl rfl).trans ?_; refine (vge2 (x := gB9 0 (g 452 17) (g 452 18)) (y := 4) (by rw [gB_0, hd]; omega) (by rw [gB_0, hd]; omega)).trans ?_) | (refine (vF_g rfl rfl).trans ?_; refine (vge2 (x := gB9 0 (g 452 17) (g 452 18)) (y := 4) (by rw [gB_0, hd]; omega) (by rw [gB_0, hd]; omega)).trans ?_))
        (first | (refine Eq.trans (b := vFn (vM MT0 (D + 1)) nb_X11_number (F1 + 1) 7 0 [vR 452, vI lo, vI hi, vI v] [vI v] g) rfl ?_) | (refine (vF_g rfl rfl).trans ?_; refine (vF_g rfl rfl).trans ?_; refine Eq.trans (b := vFn (vM MT0 (D + 1)) nb_X11_number (F1 + 1) 7 0 [vR 452, vI lo, vI hi, vI v] [vI v] g) rfl ?_) | (refine (vF_g rfl rfl).trans ?_; refine Eq.trans (b := vFn (vM MT0 (D + 1)) nb_X11_number (F1 + 1) 7 0 [vR 452, vI lo, vI hi, vI v] [vI v] g) rfl ?_))
        rw [e7]
        refine Eq.trans k2 ?_
        rw [vup_vup]
    · obtain ⟨F1, rfl⟩ : ∃ F1, F = F1 + 1 := ⟨F - 1, by omega⟩
      refine ⟨F1, by omega, ?_⟩
      rw [show nfold T s (m + 1) q v = v from if_neg w, show rn T 2 (m + 1) q = q from if_neg w, vup_id h1]
      exact out q v F1 g hx h1 h4 w
/-- of at most four digits both read the same -/
theorem nfold_is {T : Nat → Nat} {s : Nat} : ∀ (m q v : Nat), s ≤ q → rn T 2 m q - s ≤ 4 → nfold T s m q v = vfold T 2 m q v := by
  intro m
  induction m with
  | zero => intro q v h1 h2; rfl
  | succ m ih =>
    intro q v h1 h2
    by_cases w : kd9 (T q) = 2
    · rw [show rn T 2 (m + 1) q = rn T 2 m (q + 1) from if_pos w] at h2
      have h3 : q + 1 ≤ rn T 2 m (q + 1) := by
        have : ∀ m q, q ≤ rn T 2 m q := by
          intro m
          induction m with
          | zero => intro q; exact Nat.le_refl _
          | succ m ih2 =>
            intro q
            by_cases w : kd9 (T q) = 2
            · rw [show rn T 2 (m + 1) q = rn T 2 m (q + 1) from if_pos w]
              have := ih2 (q + 1)
              omega
            · rw [show rn T 2 (m + 1) q = q from if_neg w]
              exact Nat.le_refl _
        exact this m (q + 1)
      rw [show nfold T s (m + 1) q v = nfold T s m (q + 1) (if q - s < 4 then vstep v (T q) else v) from if_pos w, show vfold T 2 (m + 1) q v = vfold T 2 m (q + 1) (vstep v (T q)) from if_pos w, if_pos (show q - s < 4 by omega)]
      exact ih (q + 1) _ (by omega) h2
    · rw [show nfold T s (m + 1) q v = v from if_neg w, show vfold T 2 (m + 1) q v = v from if_neg w]
theorem rn_ge {T : Nat → Nat} {k : Nat} : ∀ (m q : Nat), q ≤ rn T k m q := by
  intro m
  induction m with
  | zero => intro q; exact Nat.le_refl _
  | succ m ih =>
    intro q
    by_cases w : kd9 (T q) = k
    · rw [show rn T k (m + 1) q = rn T k m (q + 1) from if_pos w]
      have := ih (q + 1)
      omega
    · rw [show rn T k (m + 1) q = q from if_neg w]
      exact Nat.le_refl _
/-- a number of so many digits is small -/
theorem vfold_lt {T : Nat → Nat} : ∀ (m q v b : Nat), v < b → b * 10 ^ (rn T 2 m q - q) ≤ 100000000 → vfold T 2 m q v < b * 10 ^ (rn T 2 m q - q) := by
  intro m
  induction m with
  | zero =>
    intro q v b h1 h2
    rw [show rn T 2 0 q - q = 0 from Nat.sub_self q, Nat.pow_zero, Nat.mul_one]
    exact h1
  | succ m ih =>
    intro q v b h1 h2
    by_cases w : kd9 (T q) = 2
    · have hr := rn_ge (T := T) (k := 2) m (q + 1)
      have e : rn T 2 (m + 1) q - q = rn T 2 m (q + 1) - (q + 1) + 1 := by
        rw [show rn T 2 (m + 1) q = rn T 2 m (q + 1) from if_pos w]
        omega
      have e2 : b * 10 ^ (rn T 2 m (q + 1) - (q + 1) + 1) = b * 10 * 10 ^ (rn T 2 m (q + 1) - (q + 1)) := by
        rw [Nat.pow_succ, Nat.mul_assoc, Nat.mul_comm 10]
      rw [e, e2] at h2 ⊢
      have hd := kd9_2.mp w
      have hb : b * 10 ≤ 100000000 := Nat.le_trans (Nat.le_mul_of_pos_right _ (Nat.pow_pos (by decide))) h2
      rw [show vfold T 2 (m + 1) q v = vfold T 2 m (q + 1) (vstep v (T q)) from if_pos w]
      refine ih (q + 1) _ (b * 10) ?_ h2
      rw [vstep_s (by omega) hd.1 hd.2]
      omega
    · have e : rn T 2 (m + 1) q - q = 0 := by
        rw [show rn T 2 (m + 1) q = q from if_neg w, Nat.sub_self]
      rw [e, Nat.pow_zero, Nat.mul_one, show vfold T 2 (m + 1) q v = v from if_neg w]
      exact h1
theorem vfold_4 {T : Nat → Nat} {m q : Nat} (h : rn T 2 m q - q ≤ 4) : vfold T 2 m q 0 < 10000 := by
  have h2 : 10 ^ (rn T 2 m q - q) ≤ 10 ^ 4 := Nat.pow_le_pow_right (by decide) h
  have h3 := vfold_lt (T := T) m q 0 1 (by decide) (by rw [Nat.one_mul]; exact Nat.le_trans h2 (by decide))
  rw [Nat.one_mul] at h3
  exact Nat.lt_of_lt_of_le h3 h2
theorem in_v {t lo hi : Nat} (ht : t < 10000) (hlo : lo < 10000) (hhi : hi < 10000) : (lsg (toNL (nI lo).toInt64) ≤ lsg (toNL (nI t).toInt64) ∧ lsg (toNL (nI t).toInt64) ≤ lsg (toNL (nI hi).toInt64)) ↔ (lo ≤ t ∧ t ≤ hi) := by
  rw [lsg_i2l, lsg_i2l, lsg_i2l, sg_eq (show t ≤ 2147483647 by omega), sg_eq (show lo ≤ 2147483647 by omega), sg_eq (show hi ≤ 2147483647 by omega)]
  omega
theorem flR_o {c k i : Nat} {f : Vw} (h : k ≠ 452 ∨ (i ≠ 20 ∧ i ≠ 21)) : flR c f k i = f k i := by
  unfold flR
  rcases h with h | ⟨h1, h2⟩
  · rw [vup_ne (Or.inl h), vup_ne (Or.inl h)]
  · rw [vup_ne (Or.inr h2), vup_ne (Or.inr h1)]
theorem flR_20 {c : Nat} {f : Vw} : flR c f 452 20 = c := by
  unfold flR
  rw [vup_ne (Or.inr (by decide)), vup_eq]
theorem txR_flR {c n : Nat} {f : Vw} {T : Nat → Nat} (h : TxR f n T) : TxR (flR c f) n T := txR_up (by decide) (txR_up (by decide) h)
/-- a number's end, its value -/
def nE (T : Nat → Nat) (p : Nat) : Nat := rn T 2 901 (tS T p)
noncomputable def nV (T : Nat → Nat) (p : Nat) : Nat := vfold T 2 901 (tS T p) 0
/-- what number leaves, and answers -/
noncomputable def nuR (f : Vw) (T : Nat → Nat) (p lo hi : Nat) : Nat × Vw := if kd9 (T (tS T p)) = 2 then (if nE T p - tS T p ≤ 4 then (if lo ≤ nV T p ∧ nV T p ≤ hi then (nV T p, vup (rkv f T p) 452 17 (nE T p)) else (lo, flR 2 (vup (rkv f T p) 452 17 (nE T p)))) else (lo, flR 1 (vup (rkv f T p) 452 17 (nE T p)))) else (lo, flR 1 (rkv f T p))
theorem must_1 {D c : Nat} {f : Vw} (he : f 452 20 < 4294967296) : vM MT0 (D + 1) 230 [vR 452, vI 1, vI c] f = some ((1, 0), vW 3, f) := (v_must (Or.inr rfl) he).trans (by rw [if_neg (show ¬ ((1 : Nat) = 0 ∧ f 452 20 = 0) from fun w => absurd w.1 (by decide))])
theorem must_0 {D c : Nat} {f : Vw} (h : f 452 20 = 0) : vM MT0 (D + 1) 230 [vR 452, vI 0, vI c] f = some ((1, 0), vW 3, flR c f) := (v_must (Or.inl rfl) (by rw [h]; decide)).trans (by rw [if_pos (show (0 : Nat) = 0 ∧ f 452 20 = 0 from ⟨rfl, h⟩)])
theorem must_x {D is c : Nat} {f : Vw} (his : is = 0 ∨ is = 1) (h : f 452 20 ≠ 0) (he : f 452 20 < 4294967296) : vM MT0 (D + 1) 230 [vR 452, vI is, vI c] f = some ((1, 0), vW 3, f) := (v_must his he).trans (by rw [if_neg (show ¬ (is = 0 ∧ f 452 20 = 0) from fun w => h w.2)])
theorem v_in1 {D x a b : Nat} {f : Vw} (h : lsg a ≤ lsg x ∧ lsg x ≤ lsg b) : vM MT0 (D + 1) 174 [vJ x, vJ a, vJ b] f = some ((0, 0), vI 1, f) := v_in.trans (by rw [if_pos h])
theorem v_in0 {D x a b : Nat} {f : Vw} (h : ¬ (lsg a ≤ lsg x ∧ lsg x ≤ lsg b)) : vM MT0 (D + 1) 174 [vJ x, vJ a, vJ b] f = some ((0, 0), vI 0, f) := v_in.trans (by rw [if_neg h])
theorem nu_end {D F is b1 lo hi v : Nat} {g g1 g2 : Vw} (m : vM MT0 D 230 [vR 452, vI is, vI 1] g = some ((1, 0), vW 3, g1)) (i : vM MT0 D 174 [vJ (toNL (nI v).toInt64), vJ (toNL (nI lo).toInt64), vJ (toNL (nI hi).toInt64)] g1 = some ((0, 0), vI b1, g1)) (m2 : vM MT0 D 230 [vR 452, vI b1, vI 2] g1 = some ((1, 0), vW 3, g2)) : (g2 452 20 = 0 → vFn (vM MT0 D) nb_X11_number (F + 4) 11 0 [vR 452, vI lo, vI hi, vI v] [vI is, vR 452] g = some ((0, 0), vI v, g2)) ∧ (g2 452 20 ≠ 0 → g2 452 20 < 4294967296 → vFn (vM MT0 D) nb_X11_number (F + 4) 11 0 [vR 452, vI lo, vI hi, vI v] [vI is, vR 452] g = some ((0, 0), vI lo, g2)) := by
  refine ⟨fun h => ?_, fun h h9 => ?_⟩
  · (first | (refine (vbnd_1 m).trans ?_) | (refine (vF_g rfl rfl).trans ?_; refine (vF_g rfl rfl).trans ?_; refine (vbnd_1 m).trans ?_) | (refine (vF_g rfl rfl).trans ?_; refine (vbnd_1 m).trans ?_))
    (first | (refine (vbnd_0 i).trans ?_) | (refine (vF_g rfl rfl).trans ?_; refine (vF_g rfl rfl).trans ?_; refine (vbnd_0 i).trans ?_) | (refine (vF_g rfl rfl).trans ?_; refine (vbnd_0 i).trans ?_))
    (first | (refine (vbnd_1 m2).trans ?_) | (refine (vF_g rfl rfl).trans ?_; refine (vF_g rfl rfl).trans ?_; refine (vbnd_1 m2).trans ?_) | (refine (vF_g rfl rfl).trans ?_; refine (vbnd_1 m2).trans ?_))
    (first | (refine (veq h).trans ?_) | (refine (vF_g rfl rfl).trans ?_; refine (vF_g rfl rfl).trans ?_; refine (veq h).trans ?_) | (refine (vF_g rfl rfl).trans ?_; refine (veq h).trans ?_))
    (first | (exact rfl) | (refine (vF_g rfl rfl).trans ?_; refine (vF_g rfl rfl).trans ?_; exact rfl) | (refine (vF_g rfl rfl).trans ?_; refine (vF_g rfl rfl).trans ?_; refine (vF_g rfl rfl).trans ?_; exact rfl) | (refine (vF_g rfl rfl).trans ?_; exact rfl))
  · (first | (refine (vbnd_1 m).trans ?_) | (refine (vF_g rfl rfl).trans ?_; refine (vF_g rfl rfl).trans ?_; refine (vbnd_1 m).trans ?_) | (refine (vF_g rfl rfl).trans ?_; refine (vbnd_1 m).trans ?_))
    (first | (refine (vbnd_0 i).trans ?_) | (refine (vF_g rfl rfl).trans ?_; refine (vF_g rfl rfl).trans ?_; refine (vbnd_0 i).trans ?_) | (refine (vF_g rfl rfl).trans ?_; refine (vbnd_0 i).trans ?_))
    (first | (refine (vbnd_1 m2).trans ?_) | (refine (vF_g rfl rfl).trans ?_; refine (vF_g rfl rfl).trans ?_; refine (vbnd_1 m2).trans ?_) | (refine (vF_g rfl rfl).trans ?_; refine (vbnd_1 m2).trans ?_))
    (first | (refine (vne (x := g2 452 20) (y := 0) h9 (by decide) h).trans ?_) | (refine (vF_g rfl rfl).trans ?_; refine (vF_g rfl rfl).trans ?_; refine (vne (x := g2 452 20) (y := 0) h9 (by decide) h).trans ?_) | (refine (vF_g rfl rfl).trans ?_; refine (vne (x := g2 452 20) (y := 0) h9 (by decide) h).trans ?_))
    (first | (exact rfl) | (refine (vF_g rfl rfl).trans ?_; refine (vF_g rfl rfl).trans ?_; exact rfl) | (refine (vF_g rfl rfl).trans ?_; refine (vF_g rfl rfl).trans ?_; refine (vF_g rfl rfl).trans ?_; exact rfl) | (refine (vF_g rfl rfl).trans ?_; exact rfl))
/-- number, behind its digits -/
theorem nu_8 {D F s lo hi v e : Nat} {g : Vw} (hlo : lo < 10000) (hhi : hi < 10000) (h1 : g 452 17 = e) (h2 : g 452 18 = s) (h3 : s ≤ e) (h4 : e ≤ 900) (h5 : g 452 20 < 4294967296) (h6 : g 452 20 = 0 → e - s ≤ 4 → v < 10000) : vFn (vM MT0 (D + 2)) nb_X11_number (F + 6) 8 0 [vR 452, vI lo, vI hi, vI v] [] g = some ((0, 0), vI (if g 452 20 = 0 then (if e - s ≤ 4 then (if lo ≤ v ∧ v ≤ hi then v else lo) else lo) else lo), if g 452 20 = 0 then (if e - s ≤ 4 then (if lo ≤ v ∧ v ≤ hi then g else flR 2 g) else flR 1 g) else g) := by
  have hd : gB9 0 (g 452 17) (g 452 18) = e - s := by rw [gB_0, h1, h2]; unfold g_sub; omega
  have to11 : ∀ r, (e - s ≤ 4 → vFn (vM MT0 (D + 2)) nb_X11_number (F + 4) 11 0 [vR 452, vI lo, vI hi, vI v] [vI 1, vR 452] g = r) → (¬ e - s ≤ 4 → vFn (vM MT0 (D + 2)) nb_X11_number (F + 4) 11 0 [vR 452, vI lo, vI hi, vI v] [vI 0, vR 452] g = r) → vFn (vM MT0 (D + 2)) nb_X11_number (F + 6) 8 0 [vR 452, vI lo, vI hi, vI v] [] g = r := by
    intro r r1 r2
    by_cases q : e - s ≤ 4
    · (first | (refine (vle2 (x := gB9 0 (g 452 17) (g 452 18)) (y := 4) (by decide) (by rw [hd]; exact q)).trans ?_) | (refine (vF_g rfl rfl).trans ?_; refine (vF_g rfl rfl).trans ?_; refine (vle2 (x := gB9 0 (g 452 17) (g 452 18)) (y := 4) (by decide) (by rw [hd]; exact q)).trans ?_) | (refine (vF_g rfl rfl).trans ?_; refine (vle2 (x := gB9 0 (g 452 17) (g 452 18)) (y := 4) (by decide) (by rw [hd]; exact q)).trans ?_))
      (first | (refine Eq.trans (b := vFn (vM MT0 (D + 2)) nb_X11_number (F + 4) 11 0 [vR 452, vI lo, vI hi, vI v] [vI 1, vR 452] g) rfl ?_) | (refine (vF_g rfl rfl).trans ?_; refine (vF_g rfl rfl).trans ?_; refine Eq.trans (b := vFn (vM MT0 (D + 2)) nb_X11_number (F + 4) 11 0 [vR 452, vI lo, vI hi, vI v] [vI 1, vR 452] g) rfl ?_) | (refine (vF_g rfl rfl).trans ?_; refine Eq.trans (b := vFn (vM MT0 (D + 2)) nb_X11_number (F + 4) 11 0 [vR 452, vI lo, vI hi, vI v] [vI 1, vR 452] g) rfl ?_))
      exact r1 q
    · (first | (refine (vgt (x := gB9 0 (g 452 17) (g 452 18)) (y := 4) (by rw [hd]; omega) (by rw [hd]; omega)).trans ?_) | (refine (vF_g rfl rfl).trans ?_; refine (vF_g rfl rfl).trans ?_; refine (vgt (x := gB9 0 (g 452 17) (g 452 18)) (y := 4) (by rw [hd]; omega) (by rw [hd]; omega)).trans ?_) | (refine (vF_g rfl rfl).trans ?_; refine (vgt (x := gB9 0 (g 452 17) (g 452 18)) (y := 4) (by rw [hd]; omega) (by rw [hd]; omega)).trans ?_))
      (first | (refine Eq.trans (b := vFn (vM MT0 (D + 2)) nb_X11_number (F + 4) 11 0 [vR 452, vI lo, vI hi, vI v] [vI 0, vR 452] g) rfl ?_) | (refine (vF_g rfl rfl).trans ?_; refine (vF_g rfl rfl).trans ?_; refine Eq.trans (b := vFn (vM MT0 (D + 2)) nb_X11_number (F + 4) 11 0 [vR 452, vI lo, vI hi, vI v] [vI 0, vR 452] g) rfl ?_) | (refine (vF_g rfl rfl).trans ?_; refine Eq.trans (b := vFn (vM MT0 (D + 2)) nb_X11_number (F + 4) 11 0 [vR 452, vI lo, vI hi, vI v] [vI 0, vR 452] g) rfl ?_))
      exact r2 q
  by_cases q0 : g 452 20 = 0
  · rw [if_pos q0, if_pos q0]
    refine to11 _ (fun q => ?_) (fun q => ?_)
    · rw [if_pos q, if_pos q]
      have hv := h6 q0 q
      by_cases w : lo ≤ v ∧ v ≤ hi
      · rw [if_pos w, if_pos w]
        exact (nu_end (must_1 h5) (v_in1 ((in_v hv hlo hhi).mpr w)) (must_1 h5)).1 q0
      · rw [if_neg w, if_neg w]
        exact (nu_end (must_1 h5) (v_in0 (fun x => w ((in_v hv hlo hhi).mp x))) (must_0 q0)).2 (by rw [flR_20]; decide) (by rw [flR_20]; decide)
    · rw [if_neg q, if_neg q]
      have e1 : flR 1 g 452 20 = 1 := flR_20
      by_cases w : lsg (toNL (nI lo).toInt64) ≤ lsg (toNL (nI v).toInt64) ∧ lsg (toNL (nI v).toInt64) ≤ lsg (toNL (nI hi).toInt64)
      · exact (nu_end (must_0 q0) (v_in1 w) (must_1 (by rw [e1]; decide))).2 (by rw [e1]; decide) (by rw [e1]; decide)
      · exact (nu_end (must_0 q0) (v_in0 w) (must_x (Or.inl rfl) (by rw [e1]; decide) (by rw [e1]; decide))).2 (by rw [e1]; decide) (by rw [e1]; decide)
  · rw [if_neg q0, if_neg q0]
    have key : ∀ is, is = 0 ∨ is = 1 → vFn (vM MT0 (D + 2)) nb_X11_number (F + 4) 11 0 [vR 452, vI lo, vI hi, vI v] [vI is, vR 452] g = some ((0, 0), vI lo, g) := by
      intro is his
      by_cases w : lsg (toNL (nI lo).toInt64) ≤ lsg (toNL (nI v).toInt64) ∧ lsg (toNL (nI v).toInt64) ≤ lsg (toNL (nI hi).toInt64)
      · exact (nu_end (must_x his q0 h5) (v_in1 w) (must_1 h5)).2 q0 h5
      · exact (nu_end (must_x his q0 h5) (v_in0 w) (must_x (Or.inl rfl) q0 h5)).2 q0 h5
    exact to11 _ (fun _ => key 1 (Or.inr rfl)) (fun _ => key 0 (Or.inl rfl))
theorem v_number {D n p lo hi : Nat} {T : Nat → Nat} {f : Vw} (hx : TxR f n T) (hp9 : f 452 17 = p) (hp : p ≤ n) (he : f 452 20 = 0) (hlo : lo < 10000) (hhi : hi < 10000) : vM MT0 (D + 3) 235 [vR 452, vI lo, vI hi] f = some ((0, 0), vI (nuR f T p lo hi).1, (nuR f T p lo hi).2) := by
  have hn := hx.1
  obtain ⟨hs1, hs2⟩ := sk_le hx.2.2.2.2 901 p hp
  have hS : sk T 901 p = tS T p := rfl
  rw [hS] at hs1 hs2
  have e20 : rkv f T p 452 20 = 0 := by rw [rkv_o (Or.inr (by decide))]; exact he
  obtain ⟨hr1, hr2⟩ := rn_le (k := 2) (by decide) hx.2.2.2.2 901 (tS T p) hs2
  refine vM_go rfl rfl rfl rfl fun F9 hF9 => ?_
  by_cases d : kd9 (T (tS T p)) = 2
  · (first | (refine (veq he).trans ?_) | (refine (vF_g rfl rfl).trans ?_; refine (vF_g rfl rfl).trans ?_; refine (veq he).trans ?_) | (refine (vF_g rfl rfl).trans ?_; refine (veq he).trans ?_))
    (first | (refine (vbnd_0 (v_nextR hx hp9 hp)).trans ?_) | (refine (vF_g rfl rfl).trans ?_; refine (vF_g rfl rfl).trans ?_; refine (vbnd_0 (v_nextR hx hp9 hp)).trans ?_) | (refine (vF_g rfl rfl).trans ?_; refine (vbnd_0 (v_nextR hx hp9 hp)).trans ?_))
    (first | (refine (vbnd_0 (v_in1 (x := toNL (nI (T (tS T p))).toInt64) (a := 48) (b := 57) (f := rkv f T p) ((in_9 (hx.2.2.2.1 _) (by decide) (by decide)).mpr (kd9_2.mp d)))).trans ?_) | (refine (vF_g rfl rfl).trans ?_; refine (vF_g rfl rfl).trans ?_; refine (vbnd_0 (v_in1 (x := toNL (nI (T (tS T p))).toInt64) (a := 48) (b := 57) (f := rkv f T p) ((in_9 (hx.2.2.2.1 _) (by decide) (by decide)).mpr (kd9_2.mp d)))).trans ?_) | (refine (vF_g rfl rfl).trans ?_; refine (vbnd_0 (v_in1 (x := toNL (nI (T (tS T p))).toInt64) (a := 48) (b := 57) (f := rkv f T p) ((in_9 (hx.2.2.2.1 _) (by decide) (by decide)).mpr (kd9_2.mp d)))).trans ?_))
    (first | (refine (vbnd_1 (must_1 (f := rkv f T p) (by rw [e20]; decide))).trans ?_) | (refine (vF_g rfl rfl).trans ?_; refine (vF_g rfl rfl).trans ?_; refine (vbnd_1 (must_1 (f := rkv f T p) (by rw [e20]; decide))).trans ?_) | (refine (vF_g rfl rfl).trans ?_; refine (vbnd_1 (must_1 (f := rkv f T p) (by rw [e20]; decide))).trans ?_))
    obtain ⟨c, c1, c2⟩ := nu_loop (D := D + 1) (s := tS T p) (lo := lo) (hi := hi) 901 (tS T p) 0 6 (F9 + 58) (rkv f T p) (by omega) (txR_rkv hx) rkv_17 rkv_18 (Nat.le_refl _) hs2 (by omega)
    (first | (refine Eq.trans (b := vFn (vM MT0 (D + 2)) nb_X11_number (F9 + 58) 3 0 [vR 452, vI lo, vI hi, vI 0] [] (rkv f T p)) rfl ?_) | (refine (vF_g rfl rfl).trans ?_; refine (vF_g rfl rfl).trans ?_; refine Eq.trans (b := vFn (vM MT0 (D + 2)) nb_X11_number (F9 + 58) 3 0 [vR 452, vI lo, vI hi, vI 0] [] (rkv f T p)) rfl ?_) | (refine (vF_g rfl rfl).trans ?_; refine Eq.trans (b := vFn (vM MT0 (D + 2)) nb_X11_number (F9 + 58) 3 0 [vR 452, vI lo, vI hi, vI 0] [] (rkv f T p)) rfl ?_))
    refine c2.trans ?_
    obtain ⟨F, rfl⟩ : ∃ F, c = F + 6 := ⟨c - 6, by omega⟩
    have hE : rn T 2 901 (tS T p) = nE T p := rfl
    rw [hE] at hr1 hr2 ⊢
    have e9 : vup (rkv f T p) 452 17 (nE T p) 452 20 = 0 := by rw [vup_ne (Or.inr (by decide))]; exact e20
    have hval : nE T p - tS T p ≤ 4 → nfold T (tS T p) 901 (tS T p) 0 = nV T p := fun q => nfold_is 901 (tS T p) 0 (Nat.le_refl _) q
    refine (nu_8 (F := F) (s := tS T p) (e := nE T p) hlo hhi vup_eq (by rw [vup_ne (Or.inr (by decide))]; exact rkv_18) hr1 (by omega) (by rw [e9]; decide) (fun _ q => by rw [hval q]; exact vfold_4 q)).trans ?_
    unfold nuR
    rw [if_pos e9, if_pos e9, if_pos d]
    by_cases q : nE T p - tS T p ≤ 4
    · rw [if_pos q, if_pos q, if_pos q, hval q]
      by_cases w : lo ≤ nV T p ∧ nV T p ≤ hi
      · rw [if_pos w, if_pos w, if_pos w]
      · rw [if_neg w, if_neg w, if_neg w]
    · rw [if_neg q, if_neg q, if_neg q]
  · (first | (refine (veq he).trans ?_) | (refine (vF_g rfl rfl).trans ?_; refine (vF_g rfl rfl).trans ?_; refine (veq he).trans ?_) | (refine (vF_g rfl rfl).trans ?_; refine (veq he).trans ?_))
    (first | (refine (vbnd_0 (v_nextR hx hp9 hp)).trans ?_) | (refine (vF_g rfl rfl).trans ?_; refine (vF_g rfl rfl).trans ?_; refine (vbnd_0 (v_nextR hx hp9 hp)).trans ?_) | (refine (vF_g rfl rfl).trans ?_; refine (vbnd_0 (v_nextR hx hp9 hp)).trans ?_))
    (first | (refine (vbnd_0 (v_in0 (x := toNL (nI (T (tS T p))).toInt64) (a := 48) (b := 57) (f := rkv f T p) (fun w => d (kd9_2.mpr ((in_9 (hx.2.2.2.1 _) (by decide) (by decide)).mp w))))).trans ?_) | (refine (vF_g rfl rfl).trans ?_; refine (vF_g rfl rfl).trans ?_; refine (vbnd_0 (v_in0 (x := toNL (nI (T (tS T p))).toInt64) (a := 48) (b := 57) (f := rkv f T p) (fun w => d (kd9_2.mpr ((in_9 (hx.2.2.2.1 _) (by decide) (by decide)).mp w))))).trans ?_) | (refine (vF_g rfl rfl).trans ?_; refine (vbnd_0 (v_in0 (x := toNL (nI (T (tS T p))).toInt64) (a := 48) (b := 57) (f := rkv f T p) (fun w => d (kd9_2.mpr ((in_9 (hx.2.2.2.1 _) (by decide) (by decide)).mp w))))).trans ?_))
    (first | (refine (vbnd_1 (must_0 (f := rkv f T p) e20)).trans ?_) | (refine (vF_g rfl rfl).trans ?_; refine (vF_g rfl rfl).trans ?_; refine (vbnd_1 (must_0 (f := rkv f T p) e20)).trans ?_) | (refine (vF_g rfl rfl).trans ?_; refine (vbnd_1 (must_0 (f := rkv f T p) e20)).trans ?_))
    obtain ⟨c, c1, c2⟩ := nu_loop (D := D + 1) (s := tS T p) (lo := lo) (hi := hi) 901 (tS T p) 0 6 (F9 + 58) (flR 1 (rkv f T p)) (by omega) (txR_flR (txR_rkv hx)) (by rw [flR_o (Or.inr (by decide))]; exact rkv_17) (by rw [flR_o (Or.inr (by decide))]; exact rkv_18) (Nat.le_refl _) hs2 (by omega)
    (first | (refine Eq.trans (b := vFn (vM MT0 (D + 2)) nb_X11_number (F9 + 58) 3 0 [vR 452, vI lo, vI hi, vI 0] [] (flR 1 (rkv f T p))) rfl ?_) | (refine (vF_g rfl rfl).trans ?_; refine (vF_g rfl rfl).trans ?_; refine Eq.trans (b := vFn (vM MT0 (D + 2)) nb_X11_number (F9 + 58) 3 0 [vR 452, vI lo, vI hi, vI 0] [] (flR 1 (rkv f T p))) rfl ?_) | (refine (vF_g rfl rfl).trans ?_; refine Eq.trans (b := vFn (vM MT0 (D + 2)) nb_X11_number (F9 + 58) 3 0 [vR 452, vI lo, vI hi, vI 0] [] (flR 1 (rkv f T p))) rfl ?_))
    refine c2.trans ?_
    obtain ⟨F, rfl⟩ : ∃ F, c = F + 6 := ⟨c - 6, by omega⟩
    have er : rn T 2 901 (tS T p) = tS T p := if_neg d
    rw [er, vup_id (by rw [flR_o (Or.inr (by decide))]; exact rkv_17)]
    have e9 : flR 1 (rkv f T p) 452 20 = 1 := flR_20
    refine (nu_8 (F := F) (s := tS T p) (e := tS T p) hlo hhi (by rw [flR_o (Or.inr (by decide))]; exact rkv_17) (by rw [flR_o (Or.inr (by decide))]; exact rkv_18) (Nat.le_refl _) (by omega) (by rw [e9]; decide) (fun q => by rw [e9] at q; cases q)).trans ?_
    unfold nuR
    rw [if_neg (show ¬ flR 1 (rkv f T p) 452 20 = 0 by rw [e9]; decide), if_neg (show ¬ flR 1 (rkv f T p) 452 20 = 0 by rw [e9]; decide), if_neg d]
end
section
/-! the program's takers, each from a place of the text -/
def TxC (f : Vw) (n : Nat) (T : Nat → Nat) : Prop := n ≤ 900 ∧ f 1 1 = n ∧ (∀ i, bt f i = T i) ∧ (∀ i, T i < 256 ∨ T i = 4294967295) ∧ ∀ i, n ≤ i → T i = 4294967295
/-- the tokens' object behind the token at p -/
noncomputable def tk9 (f : Vw) (T : Nat → Nat) (p : Nat) : Vw := tkv f (tE T p) (tK T p) (tS T p) (tV T p)
theorem tkv_o {f : Vw} {e k s v a b : Nat} (h : a ≠ 446 ∨ b = 0 ∨ 5 < b) : tkv f e k s v a b = f a b := by
  unfold tkv
  rcases h with h | h | h
  · rw [if_neg h]
  · subst h
    by_cases q : a = 446
    · rw [if_pos q, if_neg (by decide), if_neg (by decide), if_neg (by decide), if_neg (by decide), if_neg (by decide)]
    · rw [if_neg q]
  · by_cases q : a = 446
    · rw [if_pos q, if_neg (by omega), if_neg (by omega), if_neg (by omega), if_neg (by omega), if_neg (by omega)]
    · rw [if_neg q]
theorem tkq_1 {f : Vw} {T : Nat → Nat} {p : Nat} : tk9 f T p 446 1 = tE T p := rfl
theorem tkq_2 {f : Vw} {T : Nat → Nat} {p : Nat} : tk9 f T p 446 2 = tK T p := rfl
theorem tkq_3 {f : Vw} {T : Nat → Nat} {p : Nat} : tk9 f T p 446 3 = tS T p := rfl
theorem tkq_4 {f : Vw} {T : Nat → Nat} {p : Nat} : tk9 f T p 446 4 = tE T p - tS T p := rfl
theorem tkq_5 {f : Vw} {T : Nat → Nat} {p : Nat} : tk9 f T p 446 5 = tV T p := rfl
theorem txC_of {f g : Vw} {n : Nat} {T : Nat → Nat} (h : TxC f n T) (h1 : ∀ i, g 1 i = f 1 i) (h2 : ∀ i, g 2 i = f 2 i) : TxC g n T := ⟨h.1, by rw [h1]; exact h.2.1, fun i => by rw [← h.2.2.1 i]; unfold bt; rw [h1, h2], h.2.2.2.1, h.2.2.2.2⟩
theorem txC_tk {f : Vw} {n p : Nat} {T : Nat → Nat} (h : TxC f n T) : TxC (tk9 f T p) n T := txC_of h (fun i => tkv_o (Or.inl (by decide))) (fun i => tkv_o (Or.inl (by decide)))
theorem fl_o {c a b : Nat} {f : Vw} (h : a ≠ 446 ∨ (b ≠ 6 ∧ b ≠ 7)) : fl c f a b = f a b := by
  unfold fl
  rcases h with h | ⟨h1, h2⟩
  · rw [vup_ne (Or.inl h), vup_ne (Or.inl h)]
  · rw [vup_ne (Or.inr h2), vup_ne (Or.inr h1)]
theorem kd9_l (x : Nat) : kd9 x ≤ 5 := by
  unfold kd9
  split
  · decide
  · split
    · decide
    · split
      · decide
      · split
        · decide
        · split <;> decide
theorem tS_le {T : Nat → Nat} {n p : Nat} (hT0 : ∀ i, n ≤ i → T i = 4294967295) (hp : p ≤ n) : p ≤ tS T p ∧ tS T p ≤ n := sk_le hT0 901 p hp
theorem tE_le {T : Nat → Nat} {n p : Nat} (hT0 : ∀ i, n ≤ i → T i = 4294967295) (hp : p ≤ n) : tS T p ≤ tE T p ∧ tE T p ≤ n := by
  obtain ⟨h1, h2⟩ := tS_le hT0 hp
  unfold tE
  by_cases k0 : tK T p = 0
  · rw [if_pos k0]
    exact ⟨Nat.le_refl _, h2⟩
  · rw [if_neg k0]
    by_cases k12 : tK T p = 1 ∨ tK T p = 2
    · rw [if_pos k12]
      exact rn_le (by omega) hT0 901 (tS T p) h2
    · rw [if_neg k12]
      refine ⟨by omega, ?_⟩
      rcases Nat.lt_or_ge (tS T p) n with q | q
      · exact q
      · refine absurd ?_ k0
        unfold tK
        rw [hT0 _ q]
        decide
theorem v_next9 {D n p : Nat} {T : Nat → Nat} {f : Vw} (hx : TxC f n T) (h1 : f 446 1 = p) (hp : p ≤ n) : vM MT0 (D + 2) 48 [vR 446] f = some ((1, 0), vW 3, tk9 f T p) := v_next hx.1 h1 hx.2.1 hx.2.2.1 hp
theorem bt_T {f : Vw} {n : Nat} {T : Nat → Nat} (hx : TxC f n T) : bt f = T := funext hx.2.2.1
/-- the word stands there, as the program sees it -/
def wOKc (T : Nat → Nat) (w p : Nat) : Prop := tK T p = 1 ∧ tE T p - tS T p = (wrd w).length ∧ wq T (wrd w) (tS T p) = true
theorem wOK_c {T : Nat → Nat} {w p : Nat} (hw : 1 ≤ (wrd w).length) : wOKc T w p ↔ (tZ T p = (wrd w).length ∧ wq T (wrd w) (tS T p) = true) := by
  unfold wOKc
  by_cases k1 : tK T p = 1
  · have e : tE T p - tS T p = tZ T p := by
      unfold tE tZ
      rw [if_neg (by omega), if_pos (Or.inl k1), k1]
    rw [e]
    exact ⟨fun h => h.2, fun h => ⟨k1, h⟩⟩
  · have e : tZ T p = 0 := by
      unfold tZ
      have : rn T 1 901 (tS T p) = tS T p := if_neg k1
      omega
    rw [e]
    exact ⟨fun h => absurd h.1 k1, fun h => by omega⟩
theorem v_wordIs9 {D w n p : Nat} {T : Nat → Nat} {f g : Vw} (h1 : 20 ≤ w) (h2 : w ≤ 30) (hx : TxC g n T) (hp : p ≤ n) (g2 : g 446 2 = tK T p) (g3 : g 446 3 = tS T p) (g4 : g 446 4 = tE T p - tS T p) : (wOKc T w p → vM MT0 (D + 2) 49 [vR 446, vW w] g = some ((0, 0), vI 1, g)) ∧ (¬ wOKc T w p → vM MT0 (D + 2) 49 [vR 446, vW w] g = some ((0, 0), vI 0, g)) := by
  obtain ⟨a1, a2⟩ := tS_le hx.2.2.2.2 hp
  obtain ⟨b1, b2⟩ := tE_le hx.2.2.2.2 hp
  have hn := hx.1
  have hk : tK T p ≤ 5 := kd9_l _
  have e := v_wordIs (D := D) (w := w) (f := g) h1 h2 (by rw [hx.2.1]; exact hx.1) (by rw [g3]; omega) (by rw [g2]; omega) (by rw [g4]; omega)
  rw [g2, g3, g4, bt_T hx] at e
  exact ⟨fun c => (by rw [e, if_pos (show tK T p = 1 ∧ tE T p - tS T p = (wrd w).length ∧ wq T (wrd w) (tS T p) = true from c)]), fun c => (by rw [e, if_neg (show ¬ (tK T p = 1 ∧ tE T p - tS T p = (wrd w).length ∧ wq T (wrd w) (tS T p) = true) from c)])⟩
theorem v_takeWord_20 {D n p : Nat} {T : Nat → Nat} {f : Vw} (hx : TxC f n T) (hp9 : f 446 1 = p) (hp : p ≤ n) : (wOKc T 20 p → vM MT0 (D + 3) 51 [vR 446, vW 20] f = some ((0, 0), vI 1, tk9 f T p)) ∧ (¬ wOKc T 20 p → vM MT0 (D + 3) 51 [vR 446, vW 20] f = some ((0, 0), vI 0, fl 1 (tk9 f T p))) := by
  obtain ⟨w1, w2⟩ := v_wordIs9 (D := D) (w := 20) (f := f) (by decide) (by decide) (txC_tk (p := p) hx) hp tkq_2 tkq_3 tkq_4
  refine ⟨fun c => ?_, fun c => ?_⟩
  · refine vM_go rfl rfl rfl rfl fun F hF => ?_
    (first | (refine (vbnd_1 (v_next9 hx hp9 hp)).trans ?_) | (refine (vF_g rfl rfl).trans ?_; refine (vF_g rfl rfl).trans ?_; refine (vbnd_1 (v_next9 hx hp9 hp)).trans ?_) | (refine (vF_g rfl rfl).trans ?_; refine (vbnd_1 (v_next9 hx hp9 hp)).trans ?_))
    (first | (refine (vbnd_0 (w1 c)).trans ?_) | (refine (vF_g rfl rfl).trans ?_; refine (vF_g rfl rfl).trans ?_; refine (vbnd_0 (w1 c)).trans ?_) | (refine (vF_g rfl rfl).trans ?_; refine (vbnd_0 (w1 c)).trans ?_))
    (first | (refine (vgt (x := 1) (y := 0) (by decide) (by decide)).trans ?_) | (refine (vF_g rfl rfl).trans ?_; refine (vF_g rfl rfl).trans ?_; refine (vgt (x := 1) (y := 0) (by decide) (by decide)).trans ?_) | (refine (vF_g rfl rfl).trans ?_; refine (vgt (x := 1) (y := 0) (by decide) (by decide)).trans ?_))
    (first | (exact rfl) | (refine (vF_g rfl rfl).trans ?_; refine (vF_g rfl rfl).trans ?_; exact rfl) | (refine (vF_g rfl rfl).trans ?_; refine (vF_g rfl rfl).trans ?_; refine (vF_g rfl rfl).trans ?_; exact rfl) | (refine (vF_g rfl rfl).trans ?_; exact rfl))
  · refine vM_go rfl rfl rfl rfl fun F hF => ?_
    (first | (refine (vbnd_1 (v_next9 hx hp9 hp)).trans ?_) | (refine (vF_g rfl rfl).trans ?_; refine (vF_g rfl rfl).trans ?_; refine (vbnd_1 (v_next9 hx hp9 hp)).trans ?_) | (refine (vF_g rfl rfl).trans ?_; refine (vbnd_1 (v_next9 hx hp9 hp)).trans ?_))
    (first | (refine (vbnd_0 (w2 c)).trans ?_) | (refine (vF_g rfl rfl).trans ?_; refine (vF_g rfl rfl).trans ?_; refine (vbnd_0 (w2 c)).trans ?_) | (refine (vF_g rfl rfl).trans ?_; refine (vbnd_0 (w2 c)).trans ?_))
    (first | (refine (veq (x := 0) (y := 0) rfl).trans ?_) | (refine (vF_g rfl rfl).trans ?_; refine (vF_g rfl rfl).trans ?_; refine (veq (x := 0) (y := 0) rfl).trans ?_) | (refine (vF_g rfl rfl).trans ?_; refine (veq (x := 0) (y := 0) rfl).trans ?_))
    (first | (refine (vbnd_0 v_fail9).trans ?_) | (refine (vF_g rfl rfl).trans ?_; refine (vF_g rfl rfl).trans ?_; refine (vbnd_0 v_fail9).trans ?_) | (refine (vF_g rfl rfl).trans ?_; refine (vbnd_0 v_fail9).trans ?_))
    (first | (refine (veq (x := 0) (y := 0) rfl).trans ?_) | (refine (vF_g rfl rfl).trans ?_; refine (vF_g rfl rfl).trans ?_; refine (veq (x := 0) (y := 0) rfl).trans ?_) | (refine (vF_g rfl rfl).trans ?_; refine (veq (x := 0) (y := 0) rfl).trans ?_))
    (first | (exact rfl) | (refine (vF_g rfl rfl).trans ?_; refine (vF_g rfl rfl).trans ?_; exact rfl) | (refine (vF_g rfl rfl).trans ?_; refine (vF_g rfl rfl).trans ?_; refine (vF_g rfl rfl).trans ?_; exact rfl) | (refine (vF_g rfl rfl).trans ?_; exact rfl))
theorem v_takeWord_21 {D n p : Nat} {T : Nat → Nat} {f : Vw} (hx : TxC f n T) (hp9 : f 446 1 = p) (hp : p ≤ n) : (wOKc T 21 p → vM MT0 (D + 3) 51 [vR 446, vW 21] f = some ((0, 0), vI 1, tk9 f T p)) ∧ (¬ wOKc T 21 p → vM MT0 (D + 3) 51 [vR 446, vW 21] f = some ((0, 0), vI 0, fl 1 (tk9 f T p))) := by
  obtain ⟨w1, w2⟩ := v_wordIs9 (D := D) (w := 21) (f := f) (by decide) (by decide) (txC_tk (p := p) hx) hp tkq_2 tkq_3 tkq_4
  refine ⟨fun c => ?_, fun c => ?_⟩
  · refine vM_go rfl rfl rfl rfl fun F hF => ?_
    (first | (refine (vbnd_1 (v_next9 hx hp9 hp)).trans ?_) | (refine (vF_g rfl rfl).trans ?_; refine (vF_g rfl rfl).trans ?_; refine (vbnd_1 (v_next9 hx hp9 hp)).trans ?_) | (refine (vF_g rfl rfl).trans ?_; refine (vbnd_1 (v_next9 hx hp9 hp)).trans ?_))
    (first | (refine (vbnd_0 (w1 c)).trans ?_) | (refine (vF_g rfl rfl).trans ?_; refine (vF_g rfl rfl).trans ?_; refine (vbnd_0 (w1 c)).trans ?_) | (refine (vF_g rfl rfl).trans ?_; refine (vbnd_0 (w1 c)).trans ?_))
    (first | (refine (vgt (x := 1) (y := 0) (by decide) (by decide)).trans ?_) | (refine (vF_g rfl rfl).trans ?_; refine (vF_g rfl rfl).trans ?_; refine (vgt (x := 1) (y := 0) (by decide) (by decide)).trans ?_) | (refine (vF_g rfl rfl).trans ?_; refine (vgt (x := 1) (y := 0) (by decide) (by decide)).trans ?_))
    (first | (exact rfl) | (refine (vF_g rfl rfl).trans ?_; refine (vF_g rfl rfl).trans ?_; exact rfl) | (refine (vF_g rfl rfl).trans ?_; refine (vF_g rfl rfl).trans ?_; refine (vF_g rfl rfl).trans ?_; exact rfl) | (refine (vF_g rfl rfl).trans ?_; exact rfl))
  · refine vM_go rfl rfl rfl rfl fun F hF => ?_
    (first | (refine (vbnd_1 (v_next9 hx hp9 hp)).trans ?_) | (refine (vF_g rfl rfl).trans ?_; refine (vF_g rfl rfl).trans ?_; refine (vbnd_1 (v_next9 hx hp9 hp)).trans ?_) | (refine (vF_g rfl rfl).trans ?_; refine (vbnd_1 (v_next9 hx hp9 hp)).trans ?_))
    (first | (refine (vbnd_0 (w2 c)).trans ?_) | (refine (vF_g rfl rfl).trans ?_; refine (vF_g rfl rfl).trans ?_; refine (vbnd_0 (w2 c)).trans ?_) | (refine (vF_g rfl rfl).trans ?_; refine (vbnd_0 (w2 c)).trans ?_))
    (first | (refine (veq (x := 0) (y := 0) rfl).trans ?_) | (refine (vF_g rfl rfl).trans ?_; refine (vF_g rfl rfl).trans ?_; refine (veq (x := 0) (y := 0) rfl).trans ?_) | (refine (vF_g rfl rfl).trans ?_; refine (veq (x := 0) (y := 0) rfl).trans ?_))
    (first | (refine (vbnd_0 v_fail9).trans ?_) | (refine (vF_g rfl rfl).trans ?_; refine (vF_g rfl rfl).trans ?_; refine (vbnd_0 v_fail9).trans ?_) | (refine (vF_g rfl rfl).trans ?_; refine (vbnd_0 v_fail9).trans ?_))
    (first | (refine (veq (x := 0) (y := 0) rfl).trans ?_) | (refine (vF_g rfl rfl).trans ?_; refine (vF_g rfl rfl).trans ?_; refine (veq (x := 0) (y := 0) rfl).trans ?_) | (refine (vF_g rfl rfl).trans ?_; refine (veq (x := 0) (y := 0) rfl).trans ?_))
    (first | (exact rfl) | (refine (vF_g rfl rfl).trans ?_; refine (vF_g rfl rfl).trans ?_; exact rfl) | (refine (vF_g rfl rfl).trans ?_; refine (vF_g rfl rfl).trans ?_; refine (vF_g rfl rfl).trans ?_; exact rfl) | (refine (vF_g rfl rfl).trans ?_; exact rfl))
theorem v_takeWord_22 {D n p : Nat} {T : Nat → Nat} {f : Vw} (hx : TxC f n T) (hp9 : f 446 1 = p) (hp : p ≤ n) : (wOKc T 22 p → vM MT0 (D + 3) 51 [vR 446, vW 22] f = some ((0, 0), vI 1, tk9 f T p)) ∧ (¬ wOKc T 22 p → vM MT0 (D + 3) 51 [vR 446, vW 22] f = some ((0, 0), vI 0, fl 1 (tk9 f T p))) := by
  obtain ⟨w1, w2⟩ := v_wordIs9 (D := D) (w := 22) (f := f) (by decide) (by decide) (txC_tk (p := p) hx) hp tkq_2 tkq_3 tkq_4
  refine ⟨fun c => ?_, fun c => ?_⟩
  · refine vM_go rfl rfl rfl rfl fun F hF => ?_
    (first | (refine (vbnd_1 (v_next9 hx hp9 hp)).trans ?_) | (refine (vF_g rfl rfl).trans ?_; refine (vF_g rfl rfl).trans ?_; refine (vbnd_1 (v_next9 hx hp9 hp)).trans ?_) | (refine (vF_g rfl rfl).trans ?_; refine (vbnd_1 (v_next9 hx hp9 hp)).trans ?_))
    (first | (refine (vbnd_0 (w1 c)).trans ?_) | (refine (vF_g rfl rfl).trans ?_; refine (vF_g rfl rfl).trans ?_; refine (vbnd_0 (w1 c)).trans ?_) | (refine (vF_g rfl rfl).trans ?_; refine (vbnd_0 (w1 c)).trans ?_))
    (first | (refine (vgt (x := 1) (y := 0) (by decide) (by decide)).trans ?_) | (refine (vF_g rfl rfl).trans ?_; refine (vF_g rfl rfl).trans ?_; refine (vgt (x := 1) (y := 0) (by decide) (by decide)).trans ?_) | (refine (vF_g rfl rfl).trans ?_; refine (vgt (x := 1) (y := 0) (by decide) (by decide)).trans ?_))
    (first | (exact rfl) | (refine (vF_g rfl rfl).trans ?_; refine (vF_g rfl rfl).trans ?_; exact rfl) | (refine (vF_g rfl rfl).trans ?_; refine (vF_g rfl rfl).trans ?_; refine (vF_g rfl rfl).trans ?_; exact rfl) | (refine (vF_g rfl rfl).trans ?_; exact rfl))
  · refine vM_go rfl rfl rfl rfl fun F hF => ?_
    (first | (refine (vbnd_1 (v_next9 hx hp9 hp)).trans ?_) | (refine (vF_g rfl rfl).trans ?_; refine (vF_g rfl rfl).trans ?_; refine (vbnd_1 (v_next9 hx hp9 hp)).trans ?_) | (refine (vF_g rfl rfl).trans ?_; refine (vbnd_1 (v_next9 hx hp9 hp)).trans ?_))
    (first | (refine (vbnd_0 (w2 c)).trans ?_) | (refine (vF_g rfl rfl).trans ?_; refine (vF_g rfl rfl).trans ?_; refine (vbnd_0 (w2 c)).trans ?_) | (refine (vF_g rfl rfl).trans ?_; refine (vbnd_0 (w2 c)).trans ?_))
    (first | (refine (veq (x := 0) (y := 0) rfl).trans ?_) | (refine (vF_g rfl rfl).trans ?_; refine (vF_g rfl rfl).trans ?_; refine (veq (x := 0) (y := 0) rfl).trans ?_) | (refine (vF_g rfl rfl).trans ?_; refine (veq (x := 0) (y := 0) rfl).trans ?_))
    (first | (refine (vbnd_0 v_fail9).trans ?_) | (refine (vF_g rfl rfl).trans ?_; refine (vF_g rfl rfl).trans ?_; refine (vbnd_0 v_fail9).trans ?_) | (refine (vF_g rfl rfl).trans ?_; refine (vbnd_0 v_fail9).trans ?_))
    (first | (refine (veq (x := 0) (y := 0) rfl).trans ?_) | (refine (vF_g rfl rfl).trans ?_; refine (vF_g rfl rfl).trans ?_; refine (veq (x := 0) (y := 0) rfl).trans ?_) | (refine (vF_g rfl rfl).trans ?_; refine (veq (x := 0) (y := 0) rfl).trans ?_))
    (first | (exact rfl) | (refine (vF_g rfl rfl).trans ?_; refine (vF_g rfl rfl).trans ?_; exact rfl) | (refine (vF_g rfl rfl).trans ?_; refine (vF_g rfl rfl).trans ?_; refine (vF_g rfl rfl).trans ?_; exact rfl) | (refine (vF_g rfl rfl).trans ?_; exact rfl))
theorem v_takeWord_23 {D n p : Nat} {T : Nat → Nat} {f : Vw} (hx : TxC f n T) (hp9 : f 446 1 = p) (hp : p ≤ n) : (wOKc T 23 p → vM MT0 (D + 3) 51 [vR 446, vW 23] f = some ((0, 0), vI 1, tk9 f T p)) ∧ (¬ wOKc T 23 p → vM MT0 (D + 3) 51 [vR 446, vW 23] f = some ((0, 0), vI 0, fl 1 (tk9 f T p))) := by
  obtain ⟨w1, w2⟩ := v_wordIs9 (D := D) (w := 23) (f := f) (by decide) (by decide) (txC_tk (p := p) hx) hp tkq_2 tkq_3 tkq_4
  refine ⟨fun c => ?_, fun c => ?_⟩
  · refine vM_go rfl rfl rfl rfl fun F hF => ?_
    (first | (refine (vbnd_1 (v_next9 hx hp9 hp)).trans ?_) | (refine (vF_g rfl rfl).trans ?_; refine (vF_g rfl rfl).trans ?_; refine (vbnd_1 (v_next9 hx hp9 hp)).trans ?_) | (refine (vF_g rfl rfl).trans ?_; refine (vbnd_1 (v_next9 hx hp9 hp)).trans ?_))
    (first | (refine (vbnd_0 (w1 c)).trans ?_) | (refine (vF_g rfl rfl).trans ?_; refine (vF_g rfl rfl).trans ?_; refine (vbnd_0 (w1 c)).trans ?_) | (refine (vF_g rfl rfl).trans ?_; refine (vbnd_0 (w1 c)).trans ?_))
    (first | (refine (vgt (x := 1) (y := 0) (by decide) (by decide)).trans ?_) | (refine (vF_g rfl rfl).trans ?_; refine (vF_g rfl rfl).trans ?_; refine (vgt (x := 1) (y := 0) (by decide) (by decide)).trans ?_) | (refine (vF_g rfl rfl).trans ?_; refine (vgt (x := 1) (y := 0) (by decide) (by decide)).trans ?_))
    (first | (exact rfl) | (refine (vF_g rfl rfl).trans ?_; refine (vF_g rfl rfl).trans ?_; exact rfl) | (refine (vF_g rfl rfl).trans ?_; refine (vF_g rfl rfl).trans ?_; refine (vF_g rfl rfl).trans ?_; exact rfl) | (refine (vF_g rfl rfl).trans ?_; exact rfl))
  · refine vM_go rfl rfl rfl rfl fun F hF => ?_
    (first | (refine (vbnd_1 (v_next9 hx hp9 hp)).trans ?_) | (refine (vF_g rfl rfl).trans ?_; refine (vF_g rfl rfl).trans ?_; refine (vbnd_1 (v_next9 hx hp9 hp)).trans ?_) | (refine (vF_g rfl rfl).trans ?_; refine (vbnd_1 (v_next9 hx hp9 hp)).trans ?_))
    (first | (refine (vbnd_0 (w2 c)).trans ?_) | (refine (vF_g rfl rfl).trans ?_; refine (vF_g rfl rfl).trans ?_; refine (vbnd_0 (w2 c)).trans ?_) | (refine (vF_g rfl rfl).trans ?_; refine (vbnd_0 (w2 c)).trans ?_))
    (first | (refine (veq (x := 0) (y := 0) rfl).trans ?_) | (refine (vF_g rfl rfl).trans ?_; refine (vF_g rfl rfl).trans ?_; refine (veq (x := 0) (y := 0) rfl).trans ?_) | (refine (vF_g rfl rfl).trans ?_; refine (veq (x := 0) (y := 0) rfl).trans ?_))
    (first | (refine (vbnd_0 v_fail9).trans ?_) | (refine (vF_g rfl rfl).trans ?_; refine (vF_g rfl rfl).trans ?_; refine (vbnd_0 v_fail9).trans ?_) | (refine (vF_g rfl rfl).trans ?_; refine (vbnd_0 v_fail9).trans ?_))
    (first | (refine (veq (x := 0) (y := 0) rfl).trans ?_) | (refine (vF_g rfl rfl).trans ?_; refine (vF_g rfl rfl).trans ?_; refine (veq (x := 0) (y := 0) rfl).trans ?_) | (refine (vF_g rfl rfl).trans ?_; refine (veq (x := 0) (y := 0) rfl).trans ?_))
    (first | (exact rfl) | (refine (vF_g rfl rfl).trans ?_; refine (vF_g rfl rfl).trans ?_; exact rfl) | (refine (vF_g rfl rfl).trans ?_; refine (vF_g rfl rfl).trans ?_; refine (vF_g rfl rfl).trans ?_; exact rfl) | (refine (vF_g rfl rfl).trans ?_; exact rfl))
theorem v_takeWord_24 {D n p : Nat} {T : Nat → Nat} {f : Vw} (hx : TxC f n T) (hp9 : f 446 1 = p) (hp : p ≤ n) : (wOKc T 24 p → vM MT0 (D + 3) 51 [vR 446, vW 24] f = some ((0, 0), vI 1, tk9 f T p)) ∧ (¬ wOKc T 24 p → vM MT0 (D + 3) 51 [vR 446, vW 24] f = some ((0, 0), vI 0, fl 1 (tk9 f T p))) := by
  obtain ⟨w1, w2⟩ := v_wordIs9 (D := D) (w := 24) (f := f) (by decide) (by decide) (txC_tk (p := p) hx) hp tkq_2 tkq_3 tkq_4
  refine ⟨fun c => ?_, fun c => ?_⟩
  · refine vM_go rfl rfl rfl rfl fun F hF => ?_
    (first | (refine (vbnd_1 (v_next9 hx hp9 hp)).trans ?_) | (refine (vF_g rfl rfl).trans ?_; refine (vF_g rfl rfl).trans ?_; refine (vbnd_1 (v_next9 hx hp9 hp)).trans ?_) | (refine (vF_g rfl rfl).trans ?_; refine (vbnd_1 (v_next9 hx hp9 hp)).trans ?_))
    (first | (refine (vbnd_0 (w1 c)).trans ?_) | (refine (vF_g rfl rfl).trans ?_; refine (vF_g rfl rfl).trans ?_; refine (vbnd_0 (w1 c)).trans ?_) | (refine (vF_g rfl rfl).trans ?_; refine (vbnd_0 (w1 c)).trans ?_))
    (first | (refine (vgt (x := 1) (y := 0) (by decide) (by decide)).trans ?_) | (refine (vF_g rfl rfl).trans ?_; refine (vF_g rfl rfl).trans ?_; refine (vgt (x := 1) (y := 0) (by decide) (by decide)).trans ?_) | (refine (vF_g rfl rfl).trans ?_; refine (vgt (x := 1) (y := 0) (by decide) (by decide)).trans ?_))
    (first | (exact rfl) | (refine (vF_g rfl rfl).trans ?_; refine (vF_g rfl rfl).trans ?_; exact rfl) | (refine (vF_g rfl rfl).trans ?_; refine (vF_g rfl rfl).trans ?_; refine (vF_g rfl rfl).trans ?_; exact rfl) | (refine (vF_g rfl rfl).trans ?_; exact rfl))
  · refine vM_go rfl rfl rfl rfl fun F hF => ?_
    (first | (refine (vbnd_1 (v_next9 hx hp9 hp)).trans ?_) | (refine (vF_g rfl rfl).trans ?_; refine (vF_g rfl rfl).trans ?_; refine (vbnd_1 (v_next9 hx hp9 hp)).trans ?_) | (refine (vF_g rfl rfl).trans ?_; refine (vbnd_1 (v_next9 hx hp9 hp)).trans ?_))
    (first | (refine (vbnd_0 (w2 c)).trans ?_) | (refine (vF_g rfl rfl).trans ?_; refine (vF_g rfl rfl).trans ?_; refine (vbnd_0 (w2 c)).trans ?_) | (refine (vF_g rfl rfl).trans ?_; refine (vbnd_0 (w2 c)).trans ?_))
    (first | (refine (veq (x := 0) (y := 0) rfl).trans ?_) | (refine (vF_g rfl rfl).trans ?_; refine (vF_g rfl rfl).trans ?_; refine (veq (x := 0) (y := 0) rfl).trans ?_) | (refine (vF_g rfl rfl).trans ?_; refine (veq (x := 0) (y := 0) rfl).trans ?_))
    (first | (refine (vbnd_0 v_fail9).trans ?_) | (refine (vF_g rfl rfl).trans ?_; refine (vF_g rfl rfl).trans ?_; refine (vbnd_0 v_fail9).trans ?_) | (refine (vF_g rfl rfl).trans ?_; refine (vbnd_0 v_fail9).trans ?_))
    (first | (refine (veq (x := 0) (y := 0) rfl).trans ?_) | (refine (vF_g rfl rfl).trans ?_; refine (vF_g rfl rfl).trans ?_; refine (veq (x := 0) (y := 0) rfl).trans ?_) | (refine (vF_g rfl rfl).trans ?_; refine (veq (x := 0) (y := 0) rfl).trans ?_))
    (first | (exact rfl) | (refine (vF_g rfl rfl).trans ?_; refine (vF_g rfl rfl).trans ?_; exact rfl) | (refine (vF_g rfl rfl).trans ?_; refine (vF_g rfl rfl).trans ?_; refine (vF_g rfl rfl).trans ?_; exact rfl) | (refine (vF_g rfl rfl).trans ?_; exact rfl))
theorem v_takeWord_25 {D n p : Nat} {T : Nat → Nat} {f : Vw} (hx : TxC f n T) (hp9 : f 446 1 = p) (hp : p ≤ n) : (wOKc T 25 p → vM MT0 (D + 3) 51 [vR 446, vW 25] f = some ((0, 0), vI 1, tk9 f T p)) ∧ (¬ wOKc T 25 p → vM MT0 (D + 3) 51 [vR 446, vW 25] f = some ((0, 0), vI 0, fl 1 (tk9 f T p))) := by
  obtain ⟨w1, w2⟩ := v_wordIs9 (D := D) (w := 25) (f := f) (by decide) (by decide) (txC_tk (p := p) hx) hp tkq_2 tkq_3 tkq_4
  refine ⟨fun c => ?_, fun c => ?_⟩
  · refine vM_go rfl rfl rfl rfl fun F hF => ?_
    (first | (refine (vbnd_1 (v_next9 hx hp9 hp)).trans ?_) | (refine (vF_g rfl rfl).trans ?_; refine (vF_g rfl rfl).trans ?_; refine (vbnd_1 (v_next9 hx hp9 hp)).trans ?_) | (refine (vF_g rfl rfl).trans ?_; refine (vbnd_1 (v_next9 hx hp9 hp)).trans ?_))
    (first | (refine (vbnd_0 (w1 c)).trans ?_) | (refine (vF_g rfl rfl).trans ?_; refine (vF_g rfl rfl).trans ?_; refine (vbnd_0 (w1 c)).trans ?_) | (refine (vF_g rfl rfl).trans ?_; refine (vbnd_0 (w1 c)).trans ?_))
    (first | (refine (vgt (x := 1) (y := 0) (by decide) (by decide)).trans ?_) | (refine (vF_g rfl rfl).trans ?_; refine (vF_g rfl rfl).trans ?_; refine (vgt (x := 1) (y := 0) (by decide) (by decide)).trans ?_) | (refine (vF_g rfl rfl).trans ?_; refine (vgt (x := 1) (y := 0) (by decide) (by decide)).trans ?_))
    (first | (exact rfl) | (refine (vF_g rfl rfl).trans ?_; refine (vF_g rfl rfl).trans ?_; exact rfl) | (refine (vF_g rfl rfl).trans ?_; refine (vF_g rfl rfl).trans ?_; refine (vF_g rfl rfl).trans ?_; exact rfl) | (refine (vF_g rfl rfl).trans ?_; exact rfl))
  · refine vM_go rfl rfl rfl rfl fun F hF => ?_
    (first | (refine (vbnd_1 (v_next9 hx hp9 hp)).trans ?_) | (refine (vF_g rfl rfl).trans ?_; refine (vF_g rfl rfl).trans ?_; refine (vbnd_1 (v_next9 hx hp9 hp)).trans ?_) | (refine (vF_g rfl rfl).trans ?_; refine (vbnd_1 (v_next9 hx hp9 hp)).trans ?_))
    (first | (refine (vbnd_0 (w2 c)).trans ?_) | (refine (vF_g rfl rfl).trans ?_; refine (vF_g rfl rfl).trans ?_; refine (vbnd_0 (w2 c)).trans ?_) | (refine (vF_g rfl rfl).trans ?_; refine (vbnd_0 (w2 c)).trans ?_))
    (first | (refine (veq (x := 0) (y := 0) rfl).trans ?_) | (refine (vF_g rfl rfl).trans ?_; refine (vF_g rfl rfl).trans ?_; refine (veq (x := 0) (y := 0) rfl).trans ?_) | (refine (vF_g rfl rfl).trans ?_; refine (veq (x := 0) (y := 0) rfl).trans ?_))
    (first | (refine (vbnd_0 v_fail9).trans ?_) | (refine (vF_g rfl rfl).trans ?_; refine (vF_g rfl rfl).trans ?_; refine (vbnd_0 v_fail9).trans ?_) | (refine (vF_g rfl rfl).trans ?_; refine (vbnd_0 v_fail9).trans ?_))
    (first | (refine (veq (x := 0) (y := 0) rfl).trans ?_) | (refine (vF_g rfl rfl).trans ?_; refine (vF_g rfl rfl).trans ?_; refine (veq (x := 0) (y := 0) rfl).trans ?_) | (refine (vF_g rfl rfl).trans ?_; refine (veq (x := 0) (y := 0) rfl).trans ?_))
    (first | (exact rfl) | (refine (vF_g rfl rfl).trans ?_; refine (vF_g rfl rfl).trans ?_; exact rfl) | (refine (vF_g rfl rfl).trans ?_; refine (vF_g rfl rfl).trans ?_; refine (vF_g rfl rfl).trans ?_; exact rfl) | (refine (vF_g rfl rfl).trans ?_; exact rfl))
theorem v_takeWord_26 {D n p : Nat} {T : Nat → Nat} {f : Vw} (hx : TxC f n T) (hp9 : f 446 1 = p) (hp : p ≤ n) : (wOKc T 26 p → vM MT0 (D + 3) 51 [vR 446, vW 26] f = some ((0, 0), vI 1, tk9 f T p)) ∧ (¬ wOKc T 26 p → vM MT0 (D + 3) 51 [vR 446, vW 26] f = some ((0, 0), vI 0, fl 1 (tk9 f T p))) := by
  obtain ⟨w1, w2⟩ := v_wordIs9 (D := D) (w := 26) (f := f) (by decide) (by decide) (txC_tk (p := p) hx) hp tkq_2 tkq_3 tkq_4
  refine ⟨fun c => ?_, fun c => ?_⟩
  · refine vM_go rfl rfl rfl rfl fun F hF => ?_
    (first | (refine (vbnd_1 (v_next9 hx hp9 hp)).trans ?_) | (refine (vF_g rfl rfl).trans ?_; refine (vF_g rfl rfl).trans ?_; refine (vbnd_1 (v_next9 hx hp9 hp)).trans ?_) | (refine (vF_g rfl rfl).trans ?_; refine (vbnd_1 (v_next9 hx hp9 hp)).trans ?_))
    (first | (refine (vbnd_0 (w1 c)).trans ?_) | (refine (vF_g rfl rfl).trans ?_; refine (vF_g rfl rfl).trans ?_; refine (vbnd_0 (w1 c)).trans ?_) | (refine (vF_g rfl rfl).trans ?_; refine (vbnd_0 (w1 c)).trans ?_))
    (first | (refine (vgt (x := 1) (y := 0) (by decide) (by decide)).trans ?_) | (refine (vF_g rfl rfl).trans ?_; refine (vF_g rfl rfl).trans ?_; refine (vgt (x := 1) (y := 0) (by decide) (by decide)).trans ?_) | (refine (vF_g rfl rfl).trans ?_; refine (vgt (x := 1) (y := 0) (by decide) (by decide)).trans ?_))
    (first | (exact rfl) | (refine (vF_g rfl rfl).trans ?_; refine (vF_g rfl rfl).trans ?_; exact rfl) | (refine (vF_g rfl rfl).trans ?_; refine (vF_g rfl rfl).trans ?_; refine (vF_g rfl rfl).trans ?_; exact rfl) | (refine (vF_g rfl rfl).trans ?_; exact rfl))
  · refine vM_go rfl rfl rfl rfl fun F hF => ?_
    (first | (refine (vbnd_1 (v_next9 hx hp9 hp)).trans ?_) | (refine (vF_g rfl rfl).trans ?_; refine (vF_g rfl rfl).trans ?_; refine (vbnd_1 (v_next9 hx hp9 hp)).trans ?_) | (refine (vF_g rfl rfl).trans ?_; refine (vbnd_1 (v_next9 hx hp9 hp)).trans ?_))
    (first | (refine (vbnd_0 (w2 c)).trans ?_) | (refine (vF_g rfl rfl).trans ?_; refine (vF_g rfl rfl).trans ?_; refine (vbnd_0 (w2 c)).trans ?_) | (refine (vF_g rfl rfl).trans ?_; refine (vbnd_0 (w2 c)).trans ?_))
    (first | (refine (veq (x := 0) (y := 0) rfl).trans ?_) | (refine (vF_g rfl rfl).trans ?_; refine (vF_g rfl rfl).trans ?_; refine (veq (x := 0) (y := 0) rfl).trans ?_) | (refine (vF_g rfl rfl).trans ?_; refine (veq (x := 0) (y := 0) rfl).trans ?_))
    (first | (refine (vbnd_0 v_fail9).trans ?_) | (refine (vF_g rfl rfl).trans ?_; refine (vF_g rfl rfl).trans ?_; refine (vbnd_0 v_fail9).trans ?_) | (refine (vF_g rfl rfl).trans ?_; refine (vbnd_0 v_fail9).trans ?_))
    (first | (refine (veq (x := 0) (y := 0) rfl).trans ?_) | (refine (vF_g rfl rfl).trans ?_; refine (vF_g rfl rfl).trans ?_; refine (veq (x := 0) (y := 0) rfl).trans ?_) | (refine (vF_g rfl rfl).trans ?_; refine (veq (x := 0) (y := 0) rfl).trans ?_))
    (first | (exact rfl) | (refine (vF_g rfl rfl).trans ?_; refine (vF_g rfl rfl).trans ?_; exact rfl) | (refine (vF_g rfl rfl).trans ?_; refine (vF_g rfl rfl).trans ?_; refine (vF_g rfl rfl).trans ?_; exact rfl) | (refine (vF_g rfl rfl).trans ?_; exact rfl))
theorem v_takeWord_27 {D n p : Nat} {T : Nat → Nat} {f : Vw} (hx : TxC f n T) (hp9 : f 446 1 = p) (hp : p ≤ n) : (wOKc T 27 p → vM MT0 (D + 3) 51 [vR 446, vW 27] f = some ((0, 0), vI 1, tk9 f T p)) ∧ (¬ wOKc T 27 p → vM MT0 (D + 3) 51 [vR 446, vW 27] f = some ((0, 0), vI 0, fl 1 (tk9 f T p))) := by
  obtain ⟨w1, w2⟩ := v_wordIs9 (D := D) (w := 27) (f := f) (by decide) (by decide) (txC_tk (p := p) hx) hp tkq_2 tkq_3 tkq_4
  refine ⟨fun c => ?_, fun c => ?_⟩
  · refine vM_go rfl rfl rfl rfl fun F hF => ?_
    (first | (refine (vbnd_1 (v_next9 hx hp9 hp)).trans ?_) | (refine (vF_g rfl rfl).trans ?_; refine (vF_g rfl rfl).trans ?_; refine (vbnd_1 (v_next9 hx hp9 hp)).trans ?_) | (refine (vF_g rfl rfl).trans ?_; refine (vbnd_1 (v_next9 hx hp9 hp)).trans ?_))
    (first | (refine (vbnd_0 (w1 c)).trans ?_) | (refine (vF_g rfl rfl).trans ?_; refine (vF_g rfl rfl).trans ?_; refine (vbnd_0 (w1 c)).trans ?_) | (refine (vF_g rfl rfl).trans ?_; refine (vbnd_0 (w1 c)).trans ?_))
    (first | (refine (vgt (x := 1) (y := 0) (by decide) (by decide)).trans ?_) | (refine (vF_g rfl rfl).trans ?_; refine (vF_g rfl rfl).trans ?_; refine (vgt (x := 1) (y := 0) (by decide) (by decide)).trans ?_) | (refine (vF_g rfl rfl).trans ?_; refine (vgt (x := 1) (y := 0) (by decide) (by decide)).trans ?_))
    (first | (exact rfl) | (refine (vF_g rfl rfl).trans ?_; refine (vF_g rfl rfl).trans ?_; exact rfl) | (refine (vF_g rfl rfl).trans ?_; refine (vF_g rfl rfl).trans ?_; refine (vF_g rfl rfl).trans ?_; exact rfl) | (refine (vF_g rfl rfl).trans ?_; exact rfl))
  · refine vM_go rfl rfl rfl rfl fun F hF => ?_
    (first | (refine (vbnd_1 (v_next9 hx hp9 hp)).trans ?_) | (refine (vF_g rfl rfl).trans ?_; refine (vF_g rfl rfl).trans ?_; refine (vbnd_1 (v_next9 hx hp9 hp)).trans ?_) | (refine (vF_g rfl rfl).trans ?_; refine (vbnd_1 (v_next9 hx hp9 hp)).trans ?_))
    (first | (refine (vbnd_0 (w2 c)).trans ?_) | (refine (vF_g rfl rfl).trans ?_; refine (vF_g rfl rfl).trans ?_; refine (vbnd_0 (w2 c)).trans ?_) | (refine (vF_g rfl rfl).trans ?_; refine (vbnd_0 (w2 c)).trans ?_))
    (first | (refine (veq (x := 0) (y := 0) rfl).trans ?_) | (refine (vF_g rfl rfl).trans ?_; refine (vF_g rfl rfl).trans ?_; refine (veq (x := 0) (y := 0) rfl).trans ?_) | (refine (vF_g rfl rfl).trans ?_; refine (veq (x := 0) (y := 0) rfl).trans ?_))
    (first | (refine (vbnd_0 v_fail9).trans ?_) | (refine (vF_g rfl rfl).trans ?_; refine (vF_g rfl rfl).trans ?_; refine (vbnd_0 v_fail9).trans ?_) | (refine (vF_g rfl rfl).trans ?_; refine (vbnd_0 v_fail9).trans ?_))
    (first | (refine (veq (x := 0) (y := 0) rfl).trans ?_) | (refine (vF_g rfl rfl).trans ?_; refine (vF_g rfl rfl).trans ?_; refine (veq (x := 0) (y := 0) rfl).trans ?_) | (refine (vF_g rfl rfl).trans ?_; refine (veq (x := 0) (y := 0) rfl).trans ?_))
    (first | (exact rfl) | (refine (vF_g rfl rfl).trans ?_; refine (vF_g rfl rfl).trans ?_; exact rfl) | (refine (vF_g rfl rfl).trans ?_; refine (vF_g rfl rfl).trans ?_; refine (vF_g rfl rfl).trans ?_; exact rfl) | (refine (vF_g rfl rfl).trans ?_; exact rfl))
theorem v_takeWord_28 {D n p : Nat} {T : Nat → Nat} {f : Vw} (hx : TxC f n T) (hp9 : f 446 1 = p) (hp : p ≤ n) : (wOKc T 28 p → vM MT0 (D + 3) 51 [vR 446, vW 28] f = some ((0, 0), vI 1, tk9 f T p)) ∧ (¬ wOKc T 28 p → vM MT0 (D + 3) 51 [vR 446, vW 28] f = some ((0, 0), vI 0, fl 1 (tk9 f T p))) := by
  obtain ⟨w1, w2⟩ := v_wordIs9 (D := D) (w := 28) (f := f) (by decide) (by decide) (txC_tk (p := p) hx) hp tkq_2 tkq_3 tkq_4
  refine ⟨fun c => ?_, fun c => ?_⟩
  · refine vM_go rfl rfl rfl rfl fun F hF => ?_
    (first | (refine (vbnd_1 (v_next9 hx hp9 hp)).trans ?_) | (refine (vF_g rfl rfl).trans ?_; refine (vF_g rfl rfl).trans ?_; refine (vbnd_1 (v_next9 hx hp9 hp)).trans ?_) | (refine (vF_g rfl rfl).trans ?_; refine (vbnd_1 (v_next9 hx hp9 hp)).trans ?_))
    (first | (refine (vbnd_0 (w1 c)).trans ?_) | (refine (vF_g rfl rfl).trans ?_; refine (vF_g rfl rfl).trans ?_; refine (vbnd_0 (w1 c)).trans ?_) | (refine (vF_g rfl rfl).trans ?_; refine (vbnd_0 (w1 c)).trans ?_))
    (first | (refine (vgt (x := 1) (y := 0) (by decide) (by decide)).trans ?_) | (refine (vF_g rfl rfl).trans ?_; refine (vF_g rfl rfl).trans ?_; refine (vgt (x := 1) (y := 0) (by decide) (by decide)).trans ?_) | (refine (vF_g rfl rfl).trans ?_; refine (vgt (x := 1) (y := 0) (by decide) (by decide)).trans ?_))
    (first | (exact rfl) | (refine (vF_g rfl rfl).trans ?_; refine (vF_g rfl rfl).trans ?_; exact rfl) | (refine (vF_g rfl rfl).trans ?_; refine (vF_g rfl rfl).trans ?_; refine (vF_g rfl rfl).trans ?_; exact rfl) | (refine (vF_g rfl rfl).trans ?_; exact rfl))
  · refine vM_go rfl rfl rfl rfl fun F hF => ?_
    (first | (refine (vbnd_1 (v_next9 hx hp9 hp)).trans ?_) | (refine (vF_g rfl rfl).trans ?_; refine (vF_g rfl rfl).trans ?_; refine (vbnd_1 (v_next9 hx hp9 hp)).trans ?_) | (refine (vF_g rfl rfl).trans ?_; refine (vbnd_1 (v_next9 hx hp9 hp)).trans ?_))
    (first | (refine (vbnd_0 (w2 c)).trans ?_) | (refine (vF_g rfl rfl).trans ?_; refine (vF_g rfl rfl).trans ?_; refine (vbnd_0 (w2 c)).trans ?_) | (refine (vF_g rfl rfl).trans ?_; refine (vbnd_0 (w2 c)).trans ?_))
    (first | (refine (veq (x := 0) (y := 0) rfl).trans ?_) | (refine (vF_g rfl rfl).trans ?_; refine (vF_g rfl rfl).trans ?_; refine (veq (x := 0) (y := 0) rfl).trans ?_) | (refine (vF_g rfl rfl).trans ?_; refine (veq (x := 0) (y := 0) rfl).trans ?_))
    (first | (refine (vbnd_0 v_fail9).trans ?_) | (refine (vF_g rfl rfl).trans ?_; refine (vF_g rfl rfl).trans ?_; refine (vbnd_0 v_fail9).trans ?_) | (refine (vF_g rfl rfl).trans ?_; refine (vbnd_0 v_fail9).trans ?_))
    (first | (refine (veq (x := 0) (y := 0) rfl).trans ?_) | (refine (vF_g rfl rfl).trans ?_; refine (vF_g rfl rfl).trans ?_; refine (veq (x := 0) (y := 0) rfl).trans ?_) | (refine (vF_g rfl rfl).trans ?_; refine (veq (x := 0) (y := 0) rfl).trans ?_))
    (first | (exact rfl) | (refine (vF_g rfl rfl).trans ?_; refine (vF_g rfl rfl).trans ?_; exact rfl) | (refine (vF_g rfl rfl).trans ?_; refine (vF_g rfl rfl).trans ?_; refine (vF_g rfl rfl).trans ?_; exact rfl) | (refine (vF_g rfl rfl).trans ?_; exact rfl))
theorem v_takeWord_29 {D n p : Nat} {T : Nat → Nat} {f : Vw} (hx : TxC f n T) (hp9 : f 446 1 = p) (hp : p ≤ n) : (wOKc T 29 p → vM MT0 (D + 3) 51 [vR 446, vW 29] f = some ((0, 0), vI 1, tk9 f T p)) ∧ (¬ wOKc T 29 p → vM MT0 (D + 3) 51 [vR 446, vW 29] f = some ((0, 0), vI 0, fl 1 (tk9 f T p))) := by
  obtain ⟨w1, w2⟩ := v_wordIs9 (D := D) (w := 29) (f := f) (by decide) (by decide) (txC_tk (p := p) hx) hp tkq_2 tkq_3 tkq_4
  refine ⟨fun c => ?_, fun c => ?_⟩
  · refine vM_go rfl rfl rfl rfl fun F hF => ?_
    (first | (refine (vbnd_1 (v_next9 hx hp9 hp)).trans ?_) | (refine (vF_g rfl rfl).trans ?_; refine (vF_g rfl rfl).trans ?_; refine (vbnd_1 (v_next9 hx hp9 hp)).trans ?_) | (refine (vF_g rfl rfl).trans ?_; refine (vbnd_1 (v_next9 hx hp9 hp)).trans ?_))
    (first | (refine (vbnd_0 (w1 c)).trans ?_) | (refine (vF_g rfl rfl).trans ?_; refine (vF_g rfl rfl).trans ?_; refine (vbnd_0 (w1 c)).trans ?_) | (refine (vF_g rfl rfl).trans ?_; refine (vbnd_0 (w1 c)).trans ?_))
    (first | (refine (vgt (x := 1) (y := 0) (by decide) (by decide)).trans ?_) | (refine (vF_g rfl rfl).trans ?_; refine (vF_g rfl rfl).trans ?_; refine (vgt (x := 1) (y := 0) (by decide) (by decide)).trans ?_) | (refine (vF_g rfl rfl).trans ?_; refine (vgt (x := 1) (y := 0) (by decide) (by decide)).trans ?_))
    (first | (exact rfl) | (refine (vF_g rfl rfl).trans ?_; refine (vF_g rfl rfl).trans ?_; exact rfl) | (refine (vF_g rfl rfl).trans ?_; refine (vF_g rfl rfl).trans ?_; refine (vF_g rfl rfl).trans ?_; exact rfl) | (refine (vF_g rfl rfl).trans ?_; exact rfl))
  · refine vM_go rfl rfl rfl rfl fun F hF => ?_
    (first | (refine (vbnd_1 (v_next9 hx hp9 hp)).trans ?_) | (refine (vF_g rfl rfl).trans ?_; refine (vF_g rfl rfl).trans ?_; refine (vbnd_1 (v_next9 hx hp9 hp)).trans ?_) | (refine (vF_g rfl rfl).trans ?_; refine (vbnd_1 (v_next9 hx hp9 hp)).trans ?_))
    (first | (refine (vbnd_0 (w2 c)).trans ?_) | (refine (vF_g rfl rfl).trans ?_; refine (vF_g rfl rfl).trans ?_; refine (vbnd_0 (w2 c)).trans ?_) | (refine (vF_g rfl rfl).trans ?_; refine (vbnd_0 (w2 c)).trans ?_))
    (first | (refine (veq (x := 0) (y := 0) rfl).trans ?_) | (refine (vF_g rfl rfl).trans ?_; refine (vF_g rfl rfl).trans ?_; refine (veq (x := 0) (y := 0) rfl).trans ?_) | (refine (vF_g rfl rfl).trans ?_; refine (veq (x := 0) (y := 0) rfl).trans ?_))
    (first | (refine (vbnd_0 v_fail9).trans ?_) | (refine (vF_g rfl rfl).trans ?_; refine (vF_g rfl rfl).trans ?_; refine (vbnd_0 v_fail9).trans ?_) | (refine (vF_g rfl rfl).trans ?_; refine (vbnd_0 v_fail9).trans ?_))
    (first | (refine (veq (x := 0) (y := 0) rfl).trans ?_) | (refine (vF_g rfl rfl).trans ?_; refine (vF_g rfl rfl).trans ?_; refine (veq (x := 0) (y := 0) rfl).trans ?_) | (refine (vF_g rfl rfl).trans ?_; refine (veq (x := 0) (y := 0) rfl).trans ?_))
    (first | (exact rfl) | (refine (vF_g rfl rfl).trans ?_; refine (vF_g rfl rfl).trans ?_; exact rfl) | (refine (vF_g rfl rfl).trans ?_; refine (vF_g rfl rfl).trans ?_; refine (vF_g rfl rfl).trans ?_; exact rfl) | (refine (vF_g rfl rfl).trans ?_; exact rfl))
theorem v_takeWord_30 {D n p : Nat} {T : Nat → Nat} {f : Vw} (hx : TxC f n T) (hp9 : f 446 1 = p) (hp : p ≤ n) : (wOKc T 30 p → vM MT0 (D + 3) 51 [vR 446, vW 30] f = some ((0, 0), vI 1, tk9 f T p)) ∧ (¬ wOKc T 30 p → vM MT0 (D + 3) 51 [vR 446, vW 30] f = some ((0, 0), vI 0, fl 1 (tk9 f T p))) := by
  obtain ⟨w1, w2⟩ := v_wordIs9 (D := D) (w := 30) (f := f) (by decide) (by decide) (txC_tk (p := p) hx) hp tkq_2 tkq_3 tkq_4
  refine ⟨fun c => ?_, fun c => ?_⟩
  · refine vM_go rfl rfl rfl rfl fun F hF => ?_
    (first | (refine (vbnd_1 (v_next9 hx hp9 hp)).trans ?_) | (refine (vF_g rfl rfl).trans ?_; refine (vF_g rfl rfl).trans ?_; refine (vbnd_1 (v_next9 hx hp9 hp)).trans ?_) | (refine (vF_g rfl rfl).trans ?_; refine (vbnd_1 (v_next9 hx hp9 hp)).trans ?_))
    (first | (refine (vbnd_0 (w1 c)).trans ?_) | (refine (vF_g rfl rfl).trans ?_; refine (vF_g rfl rfl).trans ?_; refine (vbnd_0 (w1 c)).trans ?_) | (refine (vF_g rfl rfl).trans ?_; refine (vbnd_0 (w1 c)).trans ?_))
    (first | (refine (vgt (x := 1) (y := 0) (by decide) (by decide)).trans ?_) | (refine (vF_g rfl rfl).trans ?_; refine (vF_g rfl rfl).trans ?_; refine (vgt (x := 1) (y := 0) (by decide) (by decide)).trans ?_) | (refine (vF_g rfl rfl).trans ?_; refine (vgt (x := 1) (y := 0) (by decide) (by decide)).trans ?_))
    (first | (exact rfl) | (refine (vF_g rfl rfl).trans ?_; refine (vF_g rfl rfl).trans ?_; exact rfl) | (refine (vF_g rfl rfl).trans ?_; refine (vF_g rfl rfl).trans ?_; refine (vF_g rfl rfl).trans ?_; exact rfl) | (refine (vF_g rfl rfl).trans ?_; exact rfl))
  · refine vM_go rfl rfl rfl rfl fun F hF => ?_
    (first | (refine (vbnd_1 (v_next9 hx hp9 hp)).trans ?_) | (refine (vF_g rfl rfl).trans ?_; refine (vF_g rfl rfl).trans ?_; refine (vbnd_1 (v_next9 hx hp9 hp)).trans ?_) | (refine (vF_g rfl rfl).trans ?_; refine (vbnd_1 (v_next9 hx hp9 hp)).trans ?_))
    (first | (refine (vbnd_0 (w2 c)).trans ?_) | (refine (vF_g rfl rfl).trans ?_; refine (vF_g rfl rfl).trans ?_; refine (vbnd_0 (w2 c)).trans ?_) | (refine (vF_g rfl rfl).trans ?_; refine (vbnd_0 (w2 c)).trans ?_))
    (first | (refine (veq (x := 0) (y := 0) rfl).trans ?_) | (refine (vF_g rfl rfl).trans ?_; refine (vF_g rfl rfl).trans ?_; refine (veq (x := 0) (y := 0) rfl).trans ?_) | (refine (vF_g rfl rfl).trans ?_; refine (veq (x := 0) (y := 0) rfl).trans ?_))
    (first | (refine (vbnd_0 v_fail9).trans ?_) | (refine (vF_g rfl rfl).trans ?_; refine (vF_g rfl rfl).trans ?_; refine (vbnd_0 v_fail9).trans ?_) | (refine (vF_g rfl rfl).trans ?_; refine (vbnd_0 v_fail9).trans ?_))
    (first | (refine (veq (x := 0) (y := 0) rfl).trans ?_) | (refine (vF_g rfl rfl).trans ?_; refine (vF_g rfl rfl).trans ?_; refine (veq (x := 0) (y := 0) rfl).trans ?_) | (refine (vF_g rfl rfl).trans ?_; refine (veq (x := 0) (y := 0) rfl).trans ?_))
    (first | (exact rfl) | (refine (vF_g rfl rfl).trans ?_; refine (vF_g rfl rfl).trans ?_; exact rfl) | (refine (vF_g rfl rfl).trans ?_; refine (vF_g rfl rfl).trans ?_; refine (vF_g rfl rfl).trans ?_; exact rfl) | (refine (vF_g rfl rfl).trans ?_; exact rfl))
theorem v_takeWord {D w n p : Nat} {T : Nat → Nat} {f : Vw} (h1 : 20 ≤ w) (h2 : w ≤ 30) (hx : TxC f n T) (hp9 : f 446 1 = p) (hp : p ≤ n) : (wOKc T w p → vM MT0 (D + 3) 51 [vR 446, vW w] f = some ((0, 0), vI 1, tk9 f T p)) ∧ (¬ wOKc T w p → vM MT0 (D + 3) 51 [vR 446, vW w] f = some ((0, 0), vI 0, fl 1 (tk9 f T p))) := by
  rcases (show w = 20 ∨ w = 21 ∨ w = 22 ∨ w = 23 ∨ w = 24 ∨ w = 25 ∨ w = 26 ∨ w = 27 ∨ w = 28 ∨ w = 29 ∨ w = 30 by omega) with rfl | rfl | rfl | rfl | rfl | rfl | rfl | rfl | rfl | rfl | rfl
  · exact v_takeWord_20 hx hp9 hp
  · exact v_takeWord_21 hx hp9 hp
  · exact v_takeWord_22 hx hp9 hp
  · exact v_takeWord_23 hx hp9 hp
  · exact v_takeWord_24 hx hp9 hp
  · exact v_takeWord_25 hx hp9 hp
  · exact v_takeWord_26 hx hp9 hp
  · exact v_takeWord_27 hx hp9 hp
  · exact v_takeWord_28 hx hp9 hp
  · exact v_takeWord_29 hx hp9 hp
  · exact v_takeWord_30 hx hp9 hp
theorem v_takeSemi {D n p : Nat} {T : Nat → Nat} {f : Vw} (hx : TxC f n T) (hp9 : f 446 1 = p) (hp : p ≤ n) : (tK T p = 3 → vM MT0 (D + 3) 52 [vR 446] f = some ((0, 0), vI 1, tk9 f T p)) ∧ (tK T p ≠ 3 → vM MT0 (D + 3) 52 [vR 446] f = some ((0, 0), vI 0, fl 1 (tk9 f T p))) := by
  have hk : tK T p ≤ 5 := kd9_l _
  refine ⟨fun c => ?_, fun c => ?_⟩
  · refine vM_go rfl rfl rfl rfl fun F hF => ?_
    (first | (refine (vbnd_1 (v_next9 hx hp9 hp)).trans ?_) | (refine (vF_g rfl rfl).trans ?_; refine (vF_g rfl rfl).trans ?_; refine (vbnd_1 (v_next9 hx hp9 hp)).trans ?_) | (refine (vF_g rfl rfl).trans ?_; refine (vbnd_1 (v_next9 hx hp9 hp)).trans ?_))
    (first | (refine (veq c).trans ?_) | (refine (vF_g rfl rfl).trans ?_; refine (vF_g rfl rfl).trans ?_; refine (veq c).trans ?_) | (refine (vF_g rfl rfl).trans ?_; refine (veq c).trans ?_))
    (first | (exact rfl) | (refine (vF_g rfl rfl).trans ?_; refine (vF_g rfl rfl).trans ?_; exact rfl) | (refine (vF_g rfl rfl).trans ?_; refine (vF_g rfl rfl).trans ?_; refine (vF_g rfl rfl).trans ?_; exact rfl) | (refine (vF_g rfl rfl).trans ?_; exact rfl))
  · refine vM_go rfl rfl rfl rfl fun F hF => ?_
    (first | (refine (vbnd_1 (v_next9 hx hp9 hp)).trans ?_) | (refine (vF_g rfl rfl).trans ?_; refine (vF_g rfl rfl).trans ?_; refine (vbnd_1 (v_next9 hx hp9 hp)).trans ?_) | (refine (vF_g rfl rfl).trans ?_; refine (vbnd_1 (v_next9 hx hp9 hp)).trans ?_))
    (first | (refine (vne (show tK T p < 4294967296 by omega) (by decide) c).trans ?_) | (refine (vF_g rfl rfl).trans ?_; refine (vF_g rfl rfl).trans ?_; refine (vne (show tK T p < 4294967296 by omega) (by decide) c).trans ?_) | (refine (vF_g rfl rfl).trans ?_; refine (vne (show tK T p < 4294967296 by omega) (by decide) c).trans ?_))
    (first | (refine (vbnd_0 v_fail9).trans ?_) | (refine (vF_g rfl rfl).trans ?_; refine (vF_g rfl rfl).trans ?_; refine (vbnd_0 v_fail9).trans ?_) | (refine (vF_g rfl rfl).trans ?_; refine (vbnd_0 v_fail9).trans ?_))
    (first | (refine (veq (x := 0) (y := 0) rfl).trans ?_) | (refine (vF_g rfl rfl).trans ?_; refine (vF_g rfl rfl).trans ?_; refine (veq (x := 0) (y := 0) rfl).trans ?_) | (refine (vF_g rfl rfl).trans ?_; refine (veq (x := 0) (y := 0) rfl).trans ?_))
    (first | (exact rfl) | (refine (vF_g rfl rfl).trans ?_; refine (vF_g rfl rfl).trans ?_; exact rfl) | (refine (vF_g rfl rfl).trans ?_; refine (vF_g rfl rfl).trans ?_; refine (vF_g rfl rfl).trans ?_; exact rfl) | (refine (vF_g rfl rfl).trans ?_; exact rfl))
theorem tV_4 {T : Nat → Nat} {p : Nat} (h : tK T p = 2) (h4 : tE T p - tS T p ≤ 4) : tV T p < 10000 := by
  have e1 : tE T p = rn T 2 901 (tS T p) := by
    unfold tE
    rw [if_neg (by omega), if_pos (Or.inr h), h]
  have e2 : tV T p = vfold T 2 901 (tS T p) 0 := by
    unfold tV
    rw [if_neg (by omega), if_pos (Or.inr h), h]
  rw [e2]
  exact vfold_4 (by rw [← e1]; exact h4)
/-- a number, as the program takes it: 0 good, else the error's code -/
noncomputable def nuC (T : Nat → Nat) (p lo hi : Nat) : Nat := if tK T p = 2 ∧ tE T p - tS T p ≤ 4 then (if lo ≤ tV T p ∧ tV T p ≤ hi then 0 else 2) else 1
theorem v_takeNumber {D n p lo hi : Nat} {T : Nat → Nat} {f : Vw} (hx : TxC f n T) (hp9 : f 446 1 = p) (hp : p ≤ n) (hlo : lo < 10000) (hhi : hi < 10000) : (nuC T p lo hi = 0 → vM MT0 (D + 3) 55 [vR 446, vI lo, vI hi] f = some ((0, 0), vI 1, tk9 f T p)) ∧ (nuC T p lo hi ≠ 0 → vM MT0 (D + 3) 55 [vR 446, vI lo, vI hi] f = some ((0, 0), vI 0, fl (nuC T p lo hi) (tk9 f T p))) := by
  obtain ⟨a1, a2⟩ := tS_le hx.2.2.2.2 hp
  obtain ⟨b1, b2⟩ := tE_le hx.2.2.2.2 hp
  have hn := hx.1
  have hk : tK T p ≤ 5 := kd9_l _
  have e := v_checkNumber (D := D) (f := tk9 f T p) (lo := lo) (hi := hi) (by rw [tkq_2]; omega) (by rw [tkq_4]; omega) (fun c1 c2 => by rw [tkq_2] at c1; rw [tkq_4] at c2; rw [tkq_5]; have := tV_4 c1 c2; omega) (by omega) (by omega)
  rw [tkq_2, tkq_4, tkq_5] at e
  unfold nuC
  by_cases c1 : tK T p = 2 ∧ tE T p - tS T p ≤ 4
  · rw [if_pos c1] at e ⊢
    by_cases c2 : lo ≤ tV T p ∧ tV T p ≤ hi
    · rw [if_pos c2] at e ⊢
      exact ⟨fun _ => vM_go rfl rfl rfl rfl fun F hF => (by (first | (refine (vbnd_1 (v_next9 hx hp9 hp)).trans ?_) | (refine (vF_g rfl rfl).trans ?_; refine (vF_g rfl rfl).trans ?_; refine (vbnd_1 (v_next9 hx hp9 hp)).trans ?_) | (refine (vF_g rfl rfl).trans ?_; refine (vbnd_1 (v_next9 hx hp9 hp)).trans ?_)); (first | (refine (vbnd_0 e).trans ?_) | (refine (vF_g rfl rfl).trans ?_; refine (vF_g rfl rfl).trans ?_; refine (vbnd_0 e).trans ?_) | (refine (vF_g rfl rfl).trans ?_; refine (vbnd_0 e).trans ?_)); (first | (exact rfl) | (refine (vF_g rfl rfl).trans ?_; refine (vF_g rfl rfl).trans ?_; exact rfl) | (refine (vF_g rfl rfl).trans ?_; refine (vF_g rfl rfl).trans ?_; refine (vF_g rfl rfl).trans ?_; exact rfl) | (refine (vF_g rfl rfl).trans ?_; exact rfl))), fun h => absurd rfl h⟩
    · rw [if_neg c2] at e ⊢
      exact ⟨fun h => (by cases h), fun _ => vM_go rfl rfl rfl rfl fun F hF => (by (first | (refine (vbnd_1 (v_next9 hx hp9 hp)).trans ?_) | (refine (vF_g rfl rfl).trans ?_; refine (vF_g rfl rfl).trans ?_; refine (vbnd_1 (v_next9 hx hp9 hp)).trans ?_) | (refine (vF_g rfl rfl).trans ?_; refine (vbnd_1 (v_next9 hx hp9 hp)).trans ?_)); (first | (refine (vbnd_0 e).trans ?_) | (refine (vF_g rfl rfl).trans ?_; refine (vF_g rfl rfl).trans ?_; refine (vbnd_0 e).trans ?_) | (refine (vF_g rfl rfl).trans ?_; refine (vbnd_0 e).trans ?_)); (first | (exact rfl) | (refine (vF_g rfl rfl).trans ?_; refine (vF_g rfl rfl).trans ?_; exact rfl) | (refine (vF_g rfl rfl).trans ?_; refine (vF_g rfl rfl).trans ?_; refine (vF_g rfl rfl).trans ?_; exact rfl) | (refine (vF_g rfl rfl).trans ?_; exact rfl)))⟩
  · rw [if_neg c1] at e ⊢
    exact ⟨fun h => (by cases h), fun _ => vM_go rfl rfl rfl rfl fun F hF => (by (first | (refine (vbnd_1 (v_next9 hx hp9 hp)).trans ?_) | (refine (vF_g rfl rfl).trans ?_; refine (vF_g rfl rfl).trans ?_; refine (vbnd_1 (v_next9 hx hp9 hp)).trans ?_) | (refine (vF_g rfl rfl).trans ?_; refine (vbnd_1 (v_next9 hx hp9 hp)).trans ?_)); (first | (refine (vbnd_0 e).trans ?_) | (refine (vF_g rfl rfl).trans ?_; refine (vF_g rfl rfl).trans ?_; refine (vbnd_0 e).trans ?_) | (refine (vF_g rfl rfl).trans ?_; refine (vbnd_0 e).trans ?_)); (first | (exact rfl) | (refine (vF_g rfl rfl).trans ?_; refine (vF_g rfl rfl).trans ?_; exact rfl) | (refine (vF_g rfl rfl).trans ?_; refine (vF_g rfl rfl).trans ?_; refine (vF_g rfl rfl).trans ?_; exact rfl) | (refine (vF_g rfl rfl).trans ?_; exact rfl)))⟩
end
section
/-! names -/
/-- the letters of a word, the last first; as one number -/
def nmr (T : Nat → Nat) (s : Nat) : Nat → List Nat
  | 0 => []
  | z + 1 => T (s + z) :: nmr T s z
def pkr : List Nat → Nat
  | [] => 0
  | c :: l => pkr l * 256 + c
theorem pkr_lt {l : List Nat} (h : ∀ c ∈ l, c < 256) : pkr l < 256 ^ l.length := by
  induction l with
  | nil => exact Nat.one_pos
  | cons c l ih =>
    have h1 := ih (fun x hx => h x (List.mem_cons_of_mem _ hx))
    have h2 := h c List.mem_cons_self
    rw [List.length_cons, Nat.pow_succ]
    show pkr l * 256 + c < 256 ^ l.length * 256
    omega
theorem pkr_inj : ∀ {l m : List Nat}, (∀ c ∈ l, 0 < c ∧ c < 256) → (∀ c ∈ m, 0 < c ∧ c < 256) → pkr l = pkr m → l = m := by
  intro l
  induction l with
  | nil =>
    intro m _ hm h
    cases m with
    | nil => rfl
    | cons c m =>
      have h1 := hm c List.mem_cons_self
      have h2 : 0 = pkr m * 256 + c := h
      omega
  | cons c l ih =>
    intro m hl hm h
    have h1 := hl c List.mem_cons_self
    cases m with
    | nil =>
      have h2 : pkr l * 256 + c = 0 := h
      omega
    | cons d m =>
      have h3 := hm d List.mem_cons_self
      have h2 : pkr l * 256 + c = pkr m * 256 + d := h
      have e : c = d := by omega
      subst e
      rw [ih (fun x hx => hl x (List.mem_cons_of_mem _ hx)) (fun x hx => hm x (List.mem_cons_of_mem _ hx)) (by omega)]
theorem toNL_lNv (n : Nat) : toNL (lN n) = n % 18446744073709551616 := by
  unfold toNL lN
  simp
theorem lsh8 {a : Nat} (h : a < 281474976710656) : g_lshl a 8 = a * 256 := by
  unfold g_lshl
  have e : ((nI 8).toInt64 &&& 63) = 8 := by decide
  rw [e]
  unfold toNL lN
  have e2 : ((Int64.ofNat a <<< (8 : Int64)).toUInt64).toNat = ((Int64.ofNat a).toBitVec <<< 8).toNat := by
    (first | (exact rfl) | (refine (vF_g rfl rfl).trans ?_; refine (vF_g rfl rfl).trans ?_; exact rfl) | (refine (vF_g rfl rfl).trans ?_; refine (vF_g rfl rfl).trans ?_; refine (vF_g rfl rfl).trans ?_; exact rfl) | (refine (vF_g rfl rfl).trans ?_; exact rfl))
  rw [e2, BitVec.toNat_shiftLeft, Nat.shiftLeft_eq]
  have e3 : (Int64.ofNat a).toBitVec.toNat = a % 18446744073709551616 := by
    simp
  rw [e3]
  omega
theorem lor8 {a c : Nat} (h : a < 281474976710656) (hc : c < 256) : g_lor (a * 256) (toNL (nI c).toInt64) = a * 256 + c := by
  unfold g_lor
  have e1 : toNL (nI c).toInt64 = c := by
    have h1 := lsg_i2l c
    rw [sg_eq (show c ≤ 2147483647 by omega)] at h1
    have h2 : toNL (nI c).toInt64 < 18446744073709551616 := (nI c).toInt64.toUInt64.toNat_lt
    unfold lsg at h1
    omega
  rw [e1]
  have e2 : toNL (lN (a * 256) ||| lN c) = (toNL (lN (a * 256))) ||| (toNL (lN c)) := by
    unfold toNL
    (first | (exact rfl) | (refine (vF_g rfl rfl).trans ?_; refine (vF_g rfl rfl).trans ?_; exact rfl) | (refine (vF_g rfl rfl).trans ?_; refine (vF_g rfl rfl).trans ?_; refine (vF_g rfl rfl).trans ?_; exact rfl) | (refine (vF_g rfl rfl).trans ?_; exact rfl))
  rw [e2, toNL_lNv, toNL_lNv, Nat.mod_eq_of_lt (show a * 256 < 18446744073709551616 by omega), Nat.mod_eq_of_lt (show c < 18446744073709551616 by omega)]
  have e3 : a * 256 = a <<< 8 := by rw [Nat.shiftLeft_eq]
  rw [e3, ← Nat.shiftLeft_add_eq_or_of_lt (show c < 2 ^ 8 by omega)]
theorem na_loop {D s z n : Nat} {T : Nat → Nat} {f : Vw} {x6 : AV} (hx : TxC f n T) (hs : s ≤ 900) (hz : z ≤ 6) : ∀ (m i F : Nat) (x6 : AV), i + m = z → 4 * m + 2 ≤ F → (∀ j, j < i → 97 ≤ T (s + j) ∧ T (s + j) ≤ 122) → (∀ j, j < z → 97 ≤ T (s + j) ∧ T (s + j) ≤ 122) → vFn (vM MT0 (D + 1)) nb_X0_nameAt F 4 0 [vR 1, vI s, vI z, vJ (pkr (nmr T s i)), vW 3, vI i, x6] [] f = some ((0, 0), vJ (pkr (nmr T s z)), f) := by
  intro m
  induction m with
  | zero =>
    intro i F x6 hi hF h1 h2
    obtain ⟨F1, rfl⟩ : ∃ F1, F = F1 + 2 := ⟨F - 2, by omega⟩
    have e : i = z := by omega
    subst e
    (first | (refine (vge2 (x := i) (y := i) (by omega) (Nat.le_refl _)).trans ?_) | (refine (vF_g rfl rfl).trans ?_; refine (vF_g rfl rfl).trans ?_; refine (vge2 (x := i) (y := i) (by omega) (Nat.le_refl _)).trans ?_) | (refine (vF_g rfl rfl).trans ?_; refine (vge2 (x := i) (y := i) (by omega) (Nat.le_refl _)).trans ?_))
    (first | (exact rfl) | (refine (vF_g rfl rfl).trans ?_; refine (vF_g rfl rfl).trans ?_; exact rfl) | (refine (vF_g rfl rfl).trans ?_; refine (vF_g rfl rfl).trans ?_; refine (vF_g rfl rfl).trans ?_; exact rfl) | (refine (vF_g rfl rfl).trans ?_; exact rfl))
  | succ m ih =>
    intro i F x6 hi hF h1 h2
    obtain ⟨F1, rfl⟩ : ∃ F1, F = F1 + 4 := ⟨F - 4, by omega⟩
    have hl := h2 i (by omega)
    have hn := hx.1
    have hq : (s + i) % 4294967296 = s + i := Nat.mod_eq_of_lt (by omega)
    have hp : pkr (nmr T s i) < 256 ^ i := by
      have e : (nmr T s i).length = i := by
        clear hi hF h1 h2 hl hq ih
        induction i with
        | zero => rfl
        | succ i ih => rw [nmr, List.length_cons, ih]
      have h3 := pkr_lt (l := nmr T s i) (by
        intro c hc
        have : ∀ i, (∀ j, j < i → T (s + j) ≤ 122) → ∀ c ∈ nmr T s i, c < 256 := by
          intro i
          induction i with
          | zero => intro _ c hc; cases hc
          | succ i ih =>
            intro h c hc
            rcases List.mem_cons.mp hc with e | hc
            · rw [e]
              have := h i (by omega)
              omega
            · exact ih (fun j hj => h j (by omega)) c hc
        exact this i (fun j hj => (h1 j hj).2) c hc)
      rw [e] at h3
      exact h3
    have hp6 : pkr (nmr T s i) < 281474976710656 := Nat.lt_of_lt_of_le hp (Nat.le_trans (Nat.pow_le_pow_right (by decide) (show i ≤ 6 by omega)) (by decide))
    (first | (refine (vlt (x := i) (y := z) (by omega) (by omega)).trans ?_) | (refine (vF_g rfl rfl).trans ?_; refine (vF_g rfl rfl).trans ?_; refine (vlt (x := i) (y := z) (by omega) (by omega)).trans ?_) | (refine (vF_g rfl rfl).trans ?_; refine (vlt (x := i) (y := z) (by omega) (by omega)).trans ?_))
    (first | (refine (vbnd_0 (v_byteAt (i := (s + i) % 4294967296) (f := f) (by rw [hq]; omega) (by rw [hx.2.1]; exact hx.1))).trans ?_) | (refine (vF_g rfl rfl).trans ?_; refine (vF_g rfl rfl).trans ?_; refine (vbnd_0 (v_byteAt (i := (s + i) % 4294967296) (f := f) (by rw [hq]; omega) (by rw [hx.2.1]; exact hx.1))).trans ?_) | (refine (vF_g rfl rfl).trans ?_; refine (vbnd_0 (v_byteAt (i := (s + i) % 4294967296) (f := f) (by rw [hq]; omega) (by rw [hx.2.1]; exact hx.1))).trans ?_))
    rw [hq, hx.2.2.1]
    (first | (refine (vge2 (x := T (s + i)) (y := 97) (by omega) hl.1).trans ?_) | (refine (vF_g rfl rfl).trans ?_; refine (vF_g rfl rfl).trans ?_; refine (vge2 (x := T (s + i)) (y := 97) (by omega) hl.1).trans ?_) | (refine (vF_g rfl rfl).trans ?_; refine (vge2 (x := T (s + i)) (y := 97) (by omega) hl.1).trans ?_))
    (first | (refine (vle2 (x := T (s + i)) (y := 122) (by decide) hl.2).trans ?_) | (refine (vF_g rfl rfl).trans ?_; refine (vF_g rfl rfl).trans ?_; refine (vle2 (x := T (s + i)) (y := 122) (by decide) hl.2).trans ?_) | (refine (vF_g rfl rfl).trans ?_; refine (vle2 (x := T (s + i)) (y := 122) (by decide) hl.2).trans ?_))
    (first | (refine Eq.trans (b := vFn (vM MT0 (D + 1)) nb_X0_nameAt F1 4 0 [vR 1, vI s, vI z, vJ (g_lor (g_lshl (pkr (nmr T s i)) 8) (toNL (nI (T (s + i))).toInt64)), vW 3, vI ((i + 1) % 4294967296), vI (T (s + i))] [] f) rfl ?_) | (refine (vF_g rfl rfl).trans ?_; refine (vF_g rfl rfl).trans ?_; refine Eq.trans (b := vFn (vM MT0 (D + 1)) nb_X0_nameAt F1 4 0 [vR 1, vI s, vI z, vJ (g_lor (g_lshl (pkr (nmr T s i)) 8) (toNL (nI (T (s + i))).toInt64)), vW 3, vI ((i + 1) % 4294967296), vI (T (s + i))] [] f) rfl ?_) | (refine (vF_g rfl rfl).trans ?_; refine Eq.trans (b := vFn (vM MT0 (D + 1)) nb_X0_nameAt F1 4 0 [vR 1, vI s, vI z, vJ (g_lor (g_lshl (pkr (nmr T s i)) 8) (toNL (nI (T (s + i))).toInt64)), vW 3, vI ((i + 1) % 4294967296), vI (T (s + i))] [] f) rfl ?_))
    rw [lsh8 hp6, lor8 hp6 (by omega), Nat.mod_eq_of_lt (show i + 1 < 4294967296 by omega)]
    exact ih (i + 1) F1 (vI (T (s + i))) (by omega) (by omega) (fun j hj => h2 j (by omega)) h2
theorem v_nameAt {D s z n : Nat} {T : Nat → Nat} {f : Vw} (hx : TxC f n T) (hs : s ≤ 900) (hz1 : 1 ≤ z) (hz : z ≤ 6) (h2 : ∀ j, j < z → 97 ≤ T (s + j) ∧ T (s + j) ≤ 122) : vM MT0 (D + 2) 5 [vR 1, vI s, vI z] f = some ((0, 0), vJ (pkr (nmr T s z)), f) := by
  refine vM_go rfl rfl rfl rfl fun F hF => ?_
  (first | (refine (vge2 (x := z) (y := 1) (by omega) hz1).trans ?_) | (refine (vF_g rfl rfl).trans ?_; refine (vF_g rfl rfl).trans ?_; refine (vge2 (x := z) (y := 1) (by omega) hz1).trans ?_) | (refine (vF_g rfl rfl).trans ?_; refine (vge2 (x := z) (y := 1) (by omega) hz1).trans ?_))
  (first | (refine (vle2 (x := z) (y := 6) (by decide) hz).trans ?_) | (refine (vF_g rfl rfl).trans ?_; refine (vF_g rfl rfl).trans ?_; refine (vle2 (x := z) (y := 6) (by decide) hz).trans ?_) | (refine (vF_g rfl rfl).trans ?_; refine (vle2 (x := z) (y := 6) (by decide) hz).trans ?_))
  (first | (refine Eq.trans (b := vFn (vM MT0 (D + 1)) nb_X0_nameAt (F + 57) 4 0 [vR 1, vI s, vI z, vJ (pkr (nmr T s 0)), vW 3, vI 0, vW 3] [] f) rfl ?_) | (refine (vF_g rfl rfl).trans ?_; refine (vF_g rfl rfl).trans ?_; refine Eq.trans (b := vFn (vM MT0 (D + 1)) nb_X0_nameAt (F + 57) 4 0 [vR 1, vI s, vI z, vJ (pkr (nmr T s 0)), vW 3, vI 0, vW 3] [] f) rfl ?_) | (refine (vF_g rfl rfl).trans ?_; refine Eq.trans (b := vFn (vM MT0 (D + 1)) nb_X0_nameAt (F + 57) 4 0 [vR 1, vI s, vI z, vJ (pkr (nmr T s 0)), vW 3, vI 0, vW 3] [] f) rfl ?_))
  exact na_loop (x6 := vW 3) hx hs hz z 0 (F + 57) (vW 3) (by omega) (by omega) (fun j hj => by omega) h2
end
section
/-! the program's names in a world -/
def fidx (g : Nat → Nat) (x : Nat) : Nat → Nat → Nat
  | 0, _ => 4294967295
  | m + 1, j => if g j = x then j else fidx g x m (j + 1)
theorem lsg_e {a b : Nat} (ha : a < 9223372036854775808) (hb : b < 9223372036854775808) : lsg a = lsg b ↔ a = b := by
  rw [lsg_s ha, lsg_s hb]
  omega
theorem v_isName {D : Nat} {f : Vw} (hk : f 446 2 < 4294967296) (hz : f 446 4 < 2147483648) : (f 446 2 = 1 ∧ f 446 4 ≤ 6 → vM MT0 (D + 1) 53 [vR 446] f = some ((0, 0), vI 1, f)) ∧ (¬ (f 446 2 = 1 ∧ f 446 4 ≤ 6) → vM MT0 (D + 1) 53 [vR 446] f = some ((0, 0), vI 0, f)) := by
  refine ⟨fun c => ?_, fun c => ?_⟩
  · refine vM_go rfl rfl rfl rfl fun F hF => ?_
    (first | (refine (veq c.1).trans ?_) | (refine (vF_g rfl rfl).trans ?_; refine (vF_g rfl rfl).trans ?_; refine (veq c.1).trans ?_) | (refine (vF_g rfl rfl).trans ?_; refine (veq c.1).trans ?_))
    (first | (refine (vle2 (x := f 446 4) (y := 6) (by decide) c.2).trans ?_) | (refine (vF_g rfl rfl).trans ?_; refine (vF_g rfl rfl).trans ?_; refine (vle2 (x := f 446 4) (y := 6) (by decide) c.2).trans ?_) | (refine (vF_g rfl rfl).trans ?_; refine (vle2 (x := f 446 4) (y := 6) (by decide) c.2).trans ?_))
    (first | (exact rfl) | (refine (vF_g rfl rfl).trans ?_; refine (vF_g rfl rfl).trans ?_; exact rfl) | (refine (vF_g rfl rfl).trans ?_; refine (vF_g rfl rfl).trans ?_; refine (vF_g rfl rfl).trans ?_; exact rfl) | (refine (vF_g rfl rfl).trans ?_; exact rfl))
  · by_cases q : f 446 2 = 1
    · refine vM_go rfl rfl rfl rfl fun F hF => ?_
      (first | (refine (veq q).trans ?_) | (refine (vF_g rfl rfl).trans ?_; refine (vF_g rfl rfl).trans ?_; refine (veq q).trans ?_) | (refine (vF_g rfl rfl).trans ?_; refine (veq q).trans ?_))
      (first | (refine (vgt (x := f 446 4) (y := 6) hz (by have : ¬ f 446 4 ≤ 6 := fun w => c ⟨q, w⟩; omega)).trans ?_) | (refine (vF_g rfl rfl).trans ?_; refine (vF_g rfl rfl).trans ?_; refine (vgt (x := f 446 4) (y := 6) hz (by have : ¬ f 446 4 ≤ 6 := fun w => c ⟨q, w⟩; omega)).trans ?_) | (refine (vF_g rfl rfl).trans ?_; refine (vgt (x := f 446 4) (y := 6) hz (by have : ¬ f 446 4 ≤ 6 := fun w => c ⟨q, w⟩; omega)).trans ?_))
      (first | (exact rfl) | (refine (vF_g rfl rfl).trans ?_; refine (vF_g rfl rfl).trans ?_; exact rfl) | (refine (vF_g rfl rfl).trans ?_; refine (vF_g rfl rfl).trans ?_; refine (vF_g rfl rfl).trans ?_; exact rfl) | (refine (vF_g rfl rfl).trans ?_; exact rfl))
    · refine vM_go rfl rfl rfl rfl fun F hF => ?_
      (first | (refine (vne (x := f 446 2) (y := 1) hk (by decide) q).trans ?_) | (refine (vF_g rfl rfl).trans ?_; refine (vF_g rfl rfl).trans ?_; refine (vne (x := f 446 2) (y := 1) hk (by decide) q).trans ?_) | (refine (vF_g rfl rfl).trans ?_; refine (vne (x := f 446 2) (y := 1) hk (by decide) q).trans ?_))
      (first | (exact rfl) | (refine (vF_g rfl rfl).trans ?_; refine (vF_g rfl rfl).trans ?_; exact rfl) | (refine (vF_g rfl rfl).trans ?_; refine (vF_g rfl rfl).trans ?_; refine (vF_g rfl rfl).trans ?_; exact rfl) | (refine (vF_g rfl rfl).trans ?_; exact rfl))
/-- a name may stand there -/
def nOK (T : Nat → Nat) (p : Nat) : Prop := tK T p = 1 ∧ tE T p - tS T p ≤ 6
theorem v_isName9 {D n p : Nat} {T : Nat → Nat} {g : Vw} (hx : TxC g n T) (hp : p ≤ n) (g2 : g 446 2 = tK T p) (g4 : g 446 4 = tE T p - tS T p) : (nOK T p → vM MT0 (D + 1) 53 [vR 446] g = some ((0, 0), vI 1, g)) ∧ (¬ nOK T p → vM MT0 (D + 1) 53 [vR 446] g = some ((0, 0), vI 0, g)) := by
  obtain ⟨b1, b2⟩ := tE_le hx.2.2.2.2 hp
  have hn := hx.1
  have hk : tK T p ≤ 5 := kd9_l _
  have e := v_isName (D := D) (f := g) (by rw [g2]; omega) (by rw [g4]; omega)
  rw [g2, g4] at e
  exact e
theorem v_takeName {D n p : Nat} {T : Nat → Nat} {f : Vw} (hx : TxC f n T) (hp9 : f 446 1 = p) (hp : p ≤ n) : (nOK T p → vM MT0 (D + 3) 54 [vR 446] f = some ((0, 0), vI 1, tk9 f T p)) ∧ (¬ nOK T p → vM MT0 (D + 3) 54 [vR 446] f = some ((0, 0), vI 0, fl 1 (tk9 f T p))) := by
  obtain ⟨w1, w2⟩ := v_isName9 (D := D + 1) (txC_tk (f := f) (p := p) hx) hp tkq_2 tkq_4
  refine ⟨fun c => ?_, fun c => ?_⟩
  · refine vM_go rfl rfl rfl rfl fun F hF => ?_
    (first | (refine (vbnd_1 (v_next9 hx hp9 hp)).trans ?_) | (refine (vF_g rfl rfl).trans ?_; refine (vF_g rfl rfl).trans ?_; refine (vbnd_1 (v_next9 hx hp9 hp)).trans ?_) | (refine (vF_g rfl rfl).trans ?_; refine (vbnd_1 (v_next9 hx hp9 hp)).trans ?_))
    (first | (refine (vbnd_0 (w1 c)).trans ?_) | (refine (vF_g rfl rfl).trans ?_; refine (vF_g rfl rfl).trans ?_; refine (vbnd_0 (w1 c)).trans ?_) | (refine (vF_g rfl rfl).trans ?_; refine (vbnd_0 (w1 c)).trans ?_))
    (first | (refine (vgt (x := 1) (y := 0) (by decide) (by decide)).trans ?_) | (refine (vF_g rfl rfl).trans ?_; refine (vF_g rfl rfl).trans ?_; refine (vgt (x := 1) (y := 0) (by decide) (by decide)).trans ?_) | (refine (vF_g rfl rfl).trans ?_; refine (vgt (x := 1) (y := 0) (by decide) (by decide)).trans ?_))
    (first | (exact rfl) | (refine (vF_g rfl rfl).trans ?_; refine (vF_g rfl rfl).trans ?_; exact rfl) | (refine (vF_g rfl rfl).trans ?_; refine (vF_g rfl rfl).trans ?_; refine (vF_g rfl rfl).trans ?_; exact rfl) | (refine (vF_g rfl rfl).trans ?_; exact rfl))
  · refine vM_go rfl rfl rfl rfl fun F hF => ?_
    (first | (refine (vbnd_1 (v_next9 hx hp9 hp)).trans ?_) | (refine (vF_g rfl rfl).trans ?_; refine (vF_g rfl rfl).trans ?_; refine (vbnd_1 (v_next9 hx hp9 hp)).trans ?_) | (refine (vF_g rfl rfl).trans ?_; refine (vbnd_1 (v_next9 hx hp9 hp)).trans ?_))
    (first | (refine (vbnd_0 (w2 c)).trans ?_) | (refine (vF_g rfl rfl).trans ?_; refine (vF_g rfl rfl).trans ?_; refine (vbnd_0 (w2 c)).trans ?_) | (refine (vF_g rfl rfl).trans ?_; refine (vbnd_0 (w2 c)).trans ?_))
    (first | (refine (veq (x := 0) (y := 0) rfl).trans ?_) | (refine (vF_g rfl rfl).trans ?_; refine (vF_g rfl rfl).trans ?_; refine (veq (x := 0) (y := 0) rfl).trans ?_) | (refine (vF_g rfl rfl).trans ?_; refine (veq (x := 0) (y := 0) rfl).trans ?_))
    (first | (refine (vbnd_0 v_fail9).trans ?_) | (refine (vF_g rfl rfl).trans ?_; refine (vF_g rfl rfl).trans ?_; refine (vbnd_0 v_fail9).trans ?_) | (refine (vF_g rfl rfl).trans ?_; refine (vbnd_0 v_fail9).trans ?_))
    (first | (refine (veq (x := 0) (y := 0) rfl).trans ?_) | (refine (vF_g rfl rfl).trans ?_; refine (vF_g rfl rfl).trans ?_; refine (veq (x := 0) (y := 0) rfl).trans ?_) | (refine (vF_g rfl rfl).trans ?_; refine (veq (x := 0) (y := 0) rfl).trans ?_))
    (first | (exact rfl) | (refine (vF_g rfl rfl).trans ?_; refine (vF_g rfl rfl).trans ?_; exact rfl) | (refine (vF_g rfl rfl).trans ?_; refine (vF_g rfl rfl).trans ?_; refine (vF_g rfl rfl).trans ?_; exact rfl) | (refine (vF_g rfl rfl).trans ?_; exact rfl))
/-- the letters of a word -/
theorem word_l {T : Nat → Nat} {p : Nat} (h : tK T p = 1) : ∀ j, j < tE T p - tS T p → 97 ≤ T (tS T p + j) ∧ T (tS T p + j) ≤ 122 := by
  have e : tE T p = rn T 1 901 (tS T p) := by
    unfold tE
    rw [if_neg (by omega), if_pos (Or.inl h), h]
  have key : ∀ (m q j : Nat), q + j < rn T 1 m q → kd9 (T (q + j)) = 1 := by
    intro m
    induction m with
    | zero =>
      intro q j h
      have h : q + j < q := h
      omega
    | succ m ih =>
      intro q j h
      by_cases w : kd9 (T q) = 1
      · rw [show rn T 1 (m + 1) q = rn T 1 m (q + 1) from if_pos w] at h
        cases j with
        | zero => exact w
        | succ j =>
          have := ih (q + 1) j (by omega)
          rwa [show q + 1 + j = q + (j + 1) by omega] at this
      · rw [show rn T 1 (m + 1) q = q from if_neg w] at h
        omega
  intro j hj
  exact kd9_1.mp (key 901 (tS T p) j (by rw [e] at hj; omega))
theorem word_1 {T : Nat → Nat} {p : Nat} (h : tK T p = 1) : 1 ≤ tE T p - tS T p := by
  have e : tE T p = rn T 1 901 (tS T p) := by
    unfold tE
    rw [if_neg (by omega), if_pos (Or.inl h), h]
  have e2 : rn T 1 901 (tS T p) = rn T 1 900 (tS T p + 1) := if_pos h
  have := rn_ge (T := T) (k := 1) 900 (tS T p + 1)
  omega
/-- the word's letters, the last first -/
def tN (T : Nat → Nat) (p : Nat) : List Nat := nmr T (tS T p) (tE T p - tS T p)
theorem v_name {D n p : Nat} {T : Nat → Nat} {g : Vw} (hx : TxC g n T) (hp : p ≤ n) (hk : nOK T p) (g3 : g 446 3 = tS T p) (g4 : g 446 4 = tE T p - tS T p) : vM MT0 (D + 3) 50 [vR 446] g = some ((0, 0), vJ (pkr (tN T p)), g) := by
  obtain ⟨a1, a2⟩ := tS_le hx.2.2.2.2 hp
  have hn := hx.1
  have e := v_nameAt (D := D) (s := g 446 3) (z := g 446 4) hx (by rw [g3]; omega) (by rw [g4]; exact word_1 hk.1) (by rw [g4]; exact hk.2) (fun j hj => by rw [g3]; exact word_l hk.1 j (by rw [← g4]; exact hj))
  refine vM_go rfl rfl rfl rfl fun F hF => ?_
  (first | (refine (vbnd_0 e).trans ?_) | (refine (vF_g rfl rfl).trans ?_; refine (vF_g rfl rfl).trans ?_; refine (vbnd_0 e).trans ?_) | (refine (vF_g rfl rfl).trans ?_; refine (vbnd_0 e).trans ?_))
  rw [g3, g4]
  (first | (exact rfl) | (refine (vF_g rfl rfl).trans ?_; refine (vF_g rfl rfl).trans ?_; exact rfl) | (refine (vF_g rfl rfl).trans ?_; refine (vF_g rfl rfl).trans ?_; refine (vF_g rfl rfl).trans ?_; exact rfl) | (refine (vF_g rfl rfl).trans ?_; exact rfl))
theorem rtE_46 {j : Nat} (hj : j < 12) : rt0 47 j = 49 + j := by
  rcases (show j = 0 ∨ j = 1 ∨ j = 2 ∨ j = 3 ∨ j = 4 ∨ j = 5 ∨ j = 6 ∨ j = 7 ∨ j = 8 ∨ j = 9 ∨ j = 10 ∨ j = 11 by omega) with rfl | rfl | rfl | rfl | rfl | rfl | rfl | rfl | rfl | rfl | rfl | rfl <;> rfl
theorem shE_46 {j : Nat} (hj : j < 12) {t : Nat → Option VR} : shO (49 + j) 3 0 t = t 1 ∧ shO (49 + j) 3 1 t = t 0 ∧ shO (49 + j) 3 2 t = t 0 ∧ shO (49 + j) 3 3 t = t 0 ∧ shO (49 + j) 3 4 t = t 0 := by
  rcases (show j = 0 ∨ j = 1 ∨ j = 2 ∨ j = 3 ∨ j = 4 ∨ j = 5 ∨ j = 6 ∨ j = 7 ∨ j = 8 ∨ j = 9 ∨ j = 10 ∨ j = 11 by omega) with rfl | rfl | rfl | rfl | rfl | rfl | rfl | rfl | rfl | rfl | rfl | rfl <;> exact ⟨rfl, rfl, rfl, rfl, rfl⟩
theorem rtV_46 {j : Nat} (hj : j < 8) : rt0 48 j = 61 + 3 * j := by
  rcases (show j = 0 ∨ j = 1 ∨ j = 2 ∨ j = 3 ∨ j = 4 ∨ j = 5 ∨ j = 6 ∨ j = 7 by omega) with rfl | rfl | rfl | rfl | rfl | rfl | rfl | rfl <;> rfl
theorem shV_46 {j : Nat} (hj : j < 8) {t : Nat → Option VR} : shO (61 + 3 * j) 8 0 t = t 1 ∧ shO (61 + 3 * j) 8 1 t = t 0 ∧ shO (61 + 3 * j) 8 2 t = t 0 ∧ shO (61 + 3 * j) 8 3 t = t 0 ∧ shO (61 + 3 * j) 8 4 t = t 0 := by
  rcases (show j = 0 ∨ j = 1 ∨ j = 2 ∨ j = 3 ∨ j = 4 ∨ j = 5 ∨ j = 6 ∨ j = 7 by omega) with rfl | rfl | rfl | rfl | rfl | rfl | rfl | rfl <;> exact ⟨rfl, rfl, rfl, rfl, rfl⟩
theorem echoNamed_l46 {D x c : Nat} {f : Vw} (hx : x < 9223372036854775808) (hc : f 46 2 = c) (hc9 : c ≤ 12) (hn : ∀ j, j < c → f (49 + j) 0 < 9223372036854775808) : ∀ (m j F : Nat), j + m = c → 3 * m + 3 ≤ F → vFn (vM MT0 D) nb_X9_echoNamed F 1 0 [vR 46, vJ x, vW 3, vI j] [] f = some ((0, 0), vI (fidx (fun j => f (49 + j) 0) x m j), f) := by
  intro m
  induction m with
  | zero =>
    intro j F hj hF
    obtain ⟨F1, rfl⟩ : ∃ F1, F = F1 + 2 := ⟨F - 2, by omega⟩
    (first | (refine (vge2 (x := j) (y := f 46 2) (by omega) (by rw [hc]; omega)).trans ?_) | (refine (vF_g rfl rfl).trans ?_; refine (vF_g rfl rfl).trans ?_; refine (vge2 (x := j) (y := f 46 2) (by omega) (by rw [hc]; omega)).trans ?_) | (refine (vF_g rfl rfl).trans ?_; refine (vge2 (x := j) (y := f 46 2) (by omega) (by rw [hc]; omega)).trans ?_))
    (first | (exact rfl) | (refine (vF_g rfl rfl).trans ?_; refine (vF_g rfl rfl).trans ?_; exact rfl) | (refine (vF_g rfl rfl).trans ?_; refine (vF_g rfl rfl).trans ?_; refine (vF_g rfl rfl).trans ?_; exact rfl) | (refine (vF_g rfl rfl).trans ?_; exact rfl))
  | succ m ih =>
    intro j F hj hF
    obtain ⟨F1, rfl⟩ : ∃ F1, F = F1 + 3 := ⟨F - 3, by omega⟩
    have hj9 : j < 12 := by omega
    (first | (refine (vlt (x := j) (y := f 46 2) (by rw [hc]; omega) (by rw [hc]; omega)).trans ?_) | (refine (vF_g rfl rfl).trans ?_; refine (vF_g rfl rfl).trans ?_; refine (vlt (x := j) (y := f 46 2) (by rw [hc]; omega) (by rw [hc]; omega)).trans ?_) | (refine (vF_g rfl rfl).trans ?_; refine (vlt (x := j) (y := f 46 2) (by rw [hc]; omega) (by rw [hc]; omega)).trans ?_))
    have e2 : vFn (vM MT0 D) nb_X9_echoNamed (F1 + 2) 2 0 [vR 46, vJ x, vW 3, vI j] [] f = vc3 (bv (toN (lg_cmp (lN (f (49 + j) 0)) (lN x)))) (bv 0) (vFn (vM MT0 D) nb_X9_echoNamed (F1 + 1) 4 0 [vR 46, vJ x, vW 3, vI j] [] f) (vFn (vM MT0 D) nb_X9_echoNamed (F1 + 1) 3 0 [vR 46, vJ x, vW 3, vI j] [] f) (vFn (vM MT0 D) nb_X9_echoNamed (F1 + 1) 4 0 [vR 46, vJ x, vW 3, vI j] [] f) := by
      (first | (refine Eq.trans (b := gd (Nat.ble (j + 1) 12) (shO (rt0 47 j) 3 0 (gft f (rt0 47 j) 0 fun v => vB (vM MT0 D) (vFn (vM MT0 D) nb_X9_echoNamed (F1 + 1)) ((2, 4, 3, 4, 0, 0, 0), []) [(5, 1, 1, 0, 0, 0, 0), (20, 0, 0, 0, 0, 0, 0)] 0 [vR 46, vJ x, vW 3, vI j] [v] f))) rfl ?_) | (refine (vF_g rfl rfl).trans ?_; refine (vF_g rfl rfl).trans ?_; refine Eq.trans (b := gd (Nat.ble (j + 1) 12) (shO (rt0 47 j) 3 0 (gft f (rt0 47 j) 0 fun v => vB (vM MT0 D) (vFn (vM MT0 D) nb_X9_echoNamed (F1 + 1)) ((2, 4, 3, 4, 0, 0, 0), []) [(5, 1, 1, 0, 0, 0, 0), (20, 0, 0, 0, 0, 0, 0)] 0 [vR 46, vJ x, vW 3, vI j] [v] f))) rfl ?_) | (refine (vF_g rfl rfl).trans ?_; refine Eq.trans (b := gd (Nat.ble (j + 1) 12) (shO (rt0 47 j) 3 0 (gft f (rt0 47 j) 0 fun v => vB (vM MT0 D) (vFn (vM MT0 D) nb_X9_echoNamed (F1 + 1)) ((2, 4, 3, 4, 0, 0, 0), []) [(5, 1, 1, 0, 0, 0, 0), (20, 0, 0, 0, 0, 0, 0)] 0 [vR 46, vJ x, vW 3, vI j] [v] f))) rfl ?_))
      rw [Nat.ble_eq_true_of_le (show j + 1 ≤ 12 by omega), rtE_46 hj9, (shE_46 hj9).1]
      (first | (exact rfl) | (refine (vF_g rfl rfl).trans ?_; refine (vF_g rfl rfl).trans ?_; exact rfl) | (refine (vF_g rfl rfl).trans ?_; refine (vF_g rfl rfl).trans ?_; refine (vF_g rfl rfl).trans ?_; exact rfl) | (refine (vF_g rfl rfl).trans ?_; exact rfl))
    rw [e2, show fidx (fun j => f (49 + j) 0) x (m + 1) j = if f (49 + j) 0 = x then j else fidx (fun j => f (49 + j) 0) x m (j + 1) from rfl]
    have hy := hn j (by omega)
    by_cases q : f (49 + j) 0 = x
    · rw [if_pos q, vlc, if_neg (by rw [q]; exact Int.lt_irrefl _), if_pos (by rw [q])]
      (first | (exact rfl) | (refine (vF_g rfl rfl).trans ?_; refine (vF_g rfl rfl).trans ?_; exact rfl) | (refine (vF_g rfl rfl).trans ?_; refine (vF_g rfl rfl).trans ?_; refine (vF_g rfl rfl).trans ?_; exact rfl) | (refine (vF_g rfl rfl).trans ?_; exact rfl))
    · have e4 : ∀ a b : Option VR, (if lsg (f (49 + j) 0) < lsg x then a else if lsg (f (49 + j) 0) = lsg x then b else a) = a := by
        intro a b
        by_cases w : lsg (f (49 + j) 0) < lsg x
        · rw [if_pos w]
        · rw [if_neg w, if_neg (fun z => q ((lsg_e hy hx).mp z))]
      rw [if_neg q, vlc, e4]
      (first | (refine Eq.trans (b := vFn (vM MT0 D) nb_X9_echoNamed F1 1 0 [vR 46, vJ x, vW 3, vI ((j + 1) % 4294967296)] [] f) rfl ?_) | (refine (vF_g rfl rfl).trans ?_; refine (vF_g rfl rfl).trans ?_; refine Eq.trans (b := vFn (vM MT0 D) nb_X9_echoNamed F1 1 0 [vR 46, vJ x, vW 3, vI ((j + 1) % 4294967296)] [] f) rfl ?_) | (refine (vF_g rfl rfl).trans ?_; refine Eq.trans (b := vFn (vM MT0 D) nb_X9_echoNamed F1 1 0 [vR 46, vJ x, vW 3, vI ((j + 1) % 4294967296)] [] f) rfl ?_))
      rw [Nat.mod_eq_of_lt (show j + 1 < 4294967296 by omega)]
      exact ih (j + 1) F1 (by omega) (by omega)
theorem v_echoNamed46 {D x c : Nat} {f : Vw} (hx : x < 9223372036854775808) (hc : f 46 2 = c) (hc9 : c ≤ 12) (hn : ∀ j, j < c → f (49 + j) 0 < 9223372036854775808) : vM MT0 (D + 1) 71 [vR 46, vJ x] f = some ((0, 0), vI (fidx (fun j => f (49 + j) 0) x c 0), f) :=
  vM_go rfl rfl rfl rfl fun F hF => (by (first | (refine Eq.trans (b := vFn (vM MT0 D) nb_X9_echoNamed (F + 59) 1 0 [vR 46, vJ x, vW 3, vI 0] [] f) rfl ?_) | (refine (vF_g rfl rfl).trans ?_; refine (vF_g rfl rfl).trans ?_; refine Eq.trans (b := vFn (vM MT0 D) nb_X9_echoNamed (F + 59) 1 0 [vR 46, vJ x, vW 3, vI 0] [] f) rfl ?_) | (refine (vF_g rfl rfl).trans ?_; refine Eq.trans (b := vFn (vM MT0 D) nb_X9_echoNamed (F + 59) 1 0 [vR 46, vJ x, vW 3, vI 0] [] f) rfl ?_)); (first | (exact (echoNamed_l46 hx hc hc9 hn c 0 (F + 59) (by omega) (by omega))) | (refine (vF_g rfl rfl).trans ?_; refine (vF_g rfl rfl).trans ?_; exact (echoNamed_l46 hx hc hc9 hn c 0 (F + 59) (by omega) (by omega))) | (refine (vF_g rfl rfl).trans ?_; exact (echoNamed_l46 hx hc hc9 hn c 0 (F + 59) (by omega) (by omega)))))
theorem valleyNamed_l46 {D x c : Nat} {f : Vw} (hx : x < 9223372036854775808) (hc : f 46 3 = c) (hc9 : c ≤ 8) (hn : ∀ j, j < c → f (61 + 3 * j) 0 < 9223372036854775808) : ∀ (m j F : Nat), j + m = c → 3 * m + 3 ≤ F → vFn (vM MT0 D) nb_X9_valleyNamed F 1 0 [vR 46, vJ x, vW 3, vI j] [] f = some ((0, 0), vI (fidx (fun j => f (61 + 3 * j) 0) x m j), f) := by
  intro m
  induction m with
  | zero =>
    intro j F hj hF
    obtain ⟨F1, rfl⟩ : ∃ F1, F = F1 + 2 := ⟨F - 2, by omega⟩
    (first | (refine (vge2 (x := j) (y := f 46 3) (by omega) (by rw [hc]; omega)).trans ?_) | (refine (vF_g rfl rfl).trans ?_; refine (vF_g rfl rfl).trans ?_; refine (vge2 (x := j) (y := f 46 3) (by omega) (by rw [hc]; omega)).trans ?_) | (refine (vF_g rfl rfl).trans ?_; refine (vge2 (x := j) (y := f 46 3) (by omega) (by rw [hc]; omega)).trans ?_))
    (first | (exact rfl) | (refine (vF_g rfl rfl).trans ?_; refine (vF_g rfl rfl).trans ?_; exact rfl) | (refine (vF_g rfl rfl).trans ?_; refine (vF_g rfl rfl).trans ?_; refine (vF_g rfl rfl).trans ?_; exact rfl) | (refine (vF_g rfl rfl).trans ?_; exact rfl))
  | succ m ih =>
    intro j F hj hF
    obtain ⟨F1, rfl⟩ : ∃ F1, F = F1 + 3 := ⟨F - 3, by omega⟩
    have hj9 : j < 8 := by omega
    (first | (refine (vlt (x := j) (y := f 46 3) (by rw [hc]; omega) (by rw [hc]; omega)).trans ?_) | (refine (vF_g rfl rfl).trans ?_; refine (vF_g rfl rfl).trans ?_; refine (vlt (x := j) (y := f 46 3) (by rw [hc]; omega) (by rw [hc]; omega)).trans ?_) | (refine (vF_g rfl rfl).trans ?_; refine (vlt (x := j) (y := f 46 3) (by rw [hc]; omega) (by rw [hc]; omega)).trans ?_))
    have e2 : vFn (vM MT0 D) nb_X9_valleyNamed (F1 + 2) 2 0 [vR 46, vJ x, vW 3, vI j] [] f = vc3 (bv (toN (lg_cmp (lN (f (61 + 3 * j) 0)) (lN x)))) (bv 0) (vFn (vM MT0 D) nb_X9_valleyNamed (F1 + 1) 4 0 [vR 46, vJ x, vW 3, vI j] [] f) (vFn (vM MT0 D) nb_X9_valleyNamed (F1 + 1) 3 0 [vR 46, vJ x, vW 3, vI j] [] f) (vFn (vM MT0 D) nb_X9_valleyNamed (F1 + 1) 4 0 [vR 46, vJ x, vW 3, vI j] [] f) := by
      (first | (refine Eq.trans (b := gd (Nat.ble (j + 1) 8) (shO (rt0 48 j) 8 0 (gft f (rt0 48 j) 0 fun v => vB (vM MT0 D) (vFn (vM MT0 D) nb_X9_valleyNamed (F1 + 1)) ((2, 4, 3, 4, 0, 0, 0), []) [(5, 1, 1, 0, 0, 0, 0), (20, 0, 0, 0, 0, 0, 0)] 0 [vR 46, vJ x, vW 3, vI j] [v] f))) rfl ?_) | (refine (vF_g rfl rfl).trans ?_; refine (vF_g rfl rfl).trans ?_; refine Eq.trans (b := gd (Nat.ble (j + 1) 8) (shO (rt0 48 j) 8 0 (gft f (rt0 48 j) 0 fun v => vB (vM MT0 D) (vFn (vM MT0 D) nb_X9_valleyNamed (F1 + 1)) ((2, 4, 3, 4, 0, 0, 0), []) [(5, 1, 1, 0, 0, 0, 0), (20, 0, 0, 0, 0, 0, 0)] 0 [vR 46, vJ x, vW 3, vI j] [v] f))) rfl ?_) | (refine (vF_g rfl rfl).trans ?_; refine Eq.trans (b := gd (Nat.ble (j + 1) 8) (shO (rt0 48 j) 8 0 (gft f (rt0 48 j) 0 fun v => vB (vM MT0 D) (vFn (vM MT0 D) nb_X9_valleyNamed (F1 + 1)) ((2, 4, 3, 4, 0, 0, 0), []) [(5, 1, 1, 0, 0, 0, 0), (20, 0, 0, 0, 0, 0, 0)] 0 [vR 46, vJ x, vW 3, vI j] [v] f))) rfl ?_))
      rw [Nat.ble_eq_true_of_le (show j + 1 ≤ 8 by omega), rtV_46 hj9, (shV_46 hj9).1]
      (first | (exact rfl) | (refine (vF_g rfl rfl).trans ?_; refine (vF_g rfl rfl).trans ?_; exact rfl) | (refine (vF_g rfl rfl).trans ?_; refine (vF_g rfl rfl).trans ?_; refine (vF_g rfl rfl).trans ?_; exact rfl) | (refine (vF_g rfl rfl).trans ?_; exact rfl))
    rw [e2, show fidx (fun j => f (61 + 3 * j) 0) x (m + 1) j = if f (61 + 3 * j) 0 = x then j else fidx (fun j => f (61 + 3 * j) 0) x m (j + 1) from rfl]
    have hy := hn j (by omega)
    by_cases q : f (61 + 3 * j) 0 = x
    · rw [if_pos q, vlc, if_neg (by rw [q]; exact Int.lt_irrefl _), if_pos (by rw [q])]
      (first | (exact rfl) | (refine (vF_g rfl rfl).trans ?_; refine (vF_g rfl rfl).trans ?_; exact rfl) | (refine (vF_g rfl rfl).trans ?_; refine (vF_g rfl rfl).trans ?_; refine (vF_g rfl rfl).trans ?_; exact rfl) | (refine (vF_g rfl rfl).trans ?_; exact rfl))
    · have e4 : ∀ a b : Option VR, (if lsg (f (61 + 3 * j) 0) < lsg x then a else if lsg (f (61 + 3 * j) 0) = lsg x then b else a) = a := by
        intro a b
        by_cases w : lsg (f (61 + 3 * j) 0) < lsg x
        · rw [if_pos w]
        · rw [if_neg w, if_neg (fun z => q ((lsg_e hy hx).mp z))]
      rw [if_neg q, vlc, e4]
      (first | (refine Eq.trans (b := vFn (vM MT0 D) nb_X9_valleyNamed F1 1 0 [vR 46, vJ x, vW 3, vI ((j + 1) % 4294967296)] [] f) rfl ?_) | (refine (vF_g rfl rfl).trans ?_; refine (vF_g rfl rfl).trans ?_; refine Eq.trans (b := vFn (vM MT0 D) nb_X9_valleyNamed F1 1 0 [vR 46, vJ x, vW 3, vI ((j + 1) % 4294967296)] [] f) rfl ?_) | (refine (vF_g rfl rfl).trans ?_; refine Eq.trans (b := vFn (vM MT0 D) nb_X9_valleyNamed F1 1 0 [vR 46, vJ x, vW 3, vI ((j + 1) % 4294967296)] [] f) rfl ?_))
      rw [Nat.mod_eq_of_lt (show j + 1 < 4294967296 by omega)]
      exact ih (j + 1) F1 (by omega) (by omega)
theorem v_valleyNamed46 {D x c : Nat} {f : Vw} (hx : x < 9223372036854775808) (hc : f 46 3 = c) (hc9 : c ≤ 8) (hn : ∀ j, j < c → f (61 + 3 * j) 0 < 9223372036854775808) : vM MT0 (D + 1) 72 [vR 46, vJ x] f = some ((0, 0), vI (fidx (fun j => f (61 + 3 * j) 0) x c 0), f) :=
  vM_go rfl rfl rfl rfl fun F hF => (by (first | (refine Eq.trans (b := vFn (vM MT0 D) nb_X9_valleyNamed (F + 59) 1 0 [vR 46, vJ x, vW 3, vI 0] [] f) rfl ?_) | (refine (vF_g rfl rfl).trans ?_; refine (vF_g rfl rfl).trans ?_; refine Eq.trans (b := vFn (vM MT0 D) nb_X9_valleyNamed (F + 59) 1 0 [vR 46, vJ x, vW 3, vI 0] [] f) rfl ?_) | (refine (vF_g rfl rfl).trans ?_; refine Eq.trans (b := vFn (vM MT0 D) nb_X9_valleyNamed (F + 59) 1 0 [vR 46, vJ x, vW 3, vI 0] [] f) rfl ?_)); (first | (exact (valleyNamed_l46 hx hc hc9 hn c 0 (F + 59) (by omega) (by omega))) | (refine (vF_g rfl rfl).trans ?_; refine (vF_g rfl rfl).trans ?_; exact (valleyNamed_l46 hx hc hc9 hn c 0 (F + 59) (by omega) (by omega))) | (refine (vF_g rfl rfl).trans ?_; exact (valleyNamed_l46 hx hc hc9 hn c 0 (F + 59) (by omega) (by omega)))))
theorem rtE_7 {j : Nat} (hj : j < 12) : rt0 8 j = 10 + j := by
  rcases (show j = 0 ∨ j = 1 ∨ j = 2 ∨ j = 3 ∨ j = 4 ∨ j = 5 ∨ j = 6 ∨ j = 7 ∨ j = 8 ∨ j = 9 ∨ j = 10 ∨ j = 11 by omega) with rfl | rfl | rfl | rfl | rfl | rfl | rfl | rfl | rfl | rfl | rfl | rfl <;> rfl
theorem shE_7 {j : Nat} (hj : j < 12) {t : Nat → Option VR} : shO (10 + j) 3 0 t = t 1 ∧ shO (10 + j) 3 1 t = t 0 ∧ shO (10 + j) 3 2 t = t 0 ∧ shO (10 + j) 3 3 t = t 0 ∧ shO (10 + j) 3 4 t = t 0 := by
  rcases (show j = 0 ∨ j = 1 ∨ j = 2 ∨ j = 3 ∨ j = 4 ∨ j = 5 ∨ j = 6 ∨ j = 7 ∨ j = 8 ∨ j = 9 ∨ j = 10 ∨ j = 11 by omega) with rfl | rfl | rfl | rfl | rfl | rfl | rfl | rfl | rfl | rfl | rfl | rfl <;> exact ⟨rfl, rfl, rfl, rfl, rfl⟩
theorem rtV_7 {j : Nat} (hj : j < 8) : rt0 9 j = 22 + 3 * j := by
  rcases (show j = 0 ∨ j = 1 ∨ j = 2 ∨ j = 3 ∨ j = 4 ∨ j = 5 ∨ j = 6 ∨ j = 7 by omega) with rfl | rfl | rfl | rfl | rfl | rfl | rfl | rfl <;> rfl
theorem shV_7 {j : Nat} (hj : j < 8) {t : Nat → Option VR} : shO (22 + 3 * j) 8 0 t = t 1 ∧ shO (22 + 3 * j) 8 1 t = t 0 ∧ shO (22 + 3 * j) 8 2 t = t 0 ∧ shO (22 + 3 * j) 8 3 t = t 0 ∧ shO (22 + 3 * j) 8 4 t = t 0 := by
  rcases (show j = 0 ∨ j = 1 ∨ j = 2 ∨ j = 3 ∨ j = 4 ∨ j = 5 ∨ j = 6 ∨ j = 7 by omega) with rfl | rfl | rfl | rfl | rfl | rfl | rfl | rfl <;> exact ⟨rfl, rfl, rfl, rfl, rfl⟩
theorem echoNamed_l7 {D x c : Nat} {f : Vw} (hx : x < 9223372036854775808) (hc : f 7 2 = c) (hc9 : c ≤ 12) (hn : ∀ j, j < c → f (10 + j) 0 < 9223372036854775808) : ∀ (m j F : Nat), j + m = c → 3 * m + 3 ≤ F → vFn (vM MT0 D) nb_X9_echoNamed F 1 0 [vR 7, vJ x, vW 3, vI j] [] f = some ((0, 0), vI (fidx (fun j => f (10 + j) 0) x m j), f) := by
  intro m
  induction m with
  | zero =>
    intro j F hj hF
    obtain ⟨F1, rfl⟩ : ∃ F1, F = F1 + 2 := ⟨F - 2, by omega⟩
    (first | (refine (vge2 (x := j) (y := f 7 2) (by omega) (by rw [hc]; omega)).trans ?_) | (refine (vF_g rfl rfl).trans ?_; refine (vF_g rfl rfl).trans ?_; refine (vge2 (x := j) (y := f 7 2) (by omega) (by rw [hc]; omega)).trans ?_) | (refine (vF_g rfl rfl).trans ?_; refine (vge2 (x := j) (y := f 7 2) (by omega) (by rw [hc]; omega)).trans ?_))
    (first | (exact rfl) | (refine (vF_g rfl rfl).trans ?_; refine (vF_g rfl rfl).trans ?_; exact rfl) | (refine (vF_g rfl rfl).trans ?_; refine (vF_g rfl rfl).trans ?_; refine (vF_g rfl rfl).trans ?_; exact rfl) | (refine (vF_g rfl rfl).trans ?_; exact rfl))
  | succ m ih =>
    intro j F hj hF
    obtain ⟨F1, rfl⟩ : ∃ F1, F = F1 + 3 := ⟨F - 3, by omega⟩
    have hj9 : j < 12 := by omega
    (first | (refine (vlt (x := j) (y := f 7 2) (by rw [hc]; omega) (by rw [hc]; omega)).trans ?_) | (refine (vF_g rfl rfl).trans ?_; refine (vF_g rfl rfl).trans ?_; refine (vlt (x := j) (y := f 7 2) (by rw [hc]; omega) (by rw [hc]; omega)).trans ?_) | (refine (vF_g rfl rfl).trans ?_; refine (vlt (x := j) (y := f 7 2) (by rw [hc]; omega) (by rw [hc]; omega)).trans ?_))
    have e2 : vFn (vM MT0 D) nb_X9_echoNamed (F1 + 2) 2 0 [vR 7, vJ x, vW 3, vI j] [] f = vc3 (bv (toN (lg_cmp (lN (f (10 + j) 0)) (lN x)))) (bv 0) (vFn (vM MT0 D) nb_X9_echoNamed (F1 + 1) 4 0 [vR 7, vJ x, vW 3, vI j] [] f) (vFn (vM MT0 D) nb_X9_echoNamed (F1 + 1) 3 0 [vR 7, vJ x, vW 3, vI j] [] f) (vFn (vM MT0 D) nb_X9_echoNamed (F1 + 1) 4 0 [vR 7, vJ x, vW 3, vI j] [] f) := by
      (first | (refine Eq.trans (b := gd (Nat.ble (j + 1) 12) (shO (rt0 8 j) 3 0 (gft f (rt0 8 j) 0 fun v => vB (vM MT0 D) (vFn (vM MT0 D) nb_X9_echoNamed (F1 + 1)) ((2, 4, 3, 4, 0, 0, 0), []) [(5, 1, 1, 0, 0, 0, 0), (20, 0, 0, 0, 0, 0, 0)] 0 [vR 7, vJ x, vW 3, vI j] [v] f))) rfl ?_) | (refine (vF_g rfl rfl).trans ?_; refine (vF_g rfl rfl).trans ?_; refine Eq.trans (b := gd (Nat.ble (j + 1) 12) (shO (rt0 8 j) 3 0 (gft f (rt0 8 j) 0 fun v => vB (vM MT0 D) (vFn (vM MT0 D) nb_X9_echoNamed (F1 + 1)) ((2, 4, 3, 4, 0, 0, 0), []) [(5, 1, 1, 0, 0, 0, 0), (20, 0, 0, 0, 0, 0, 0)] 0 [vR 7, vJ x, vW 3, vI j] [v] f))) rfl ?_) | (refine (vF_g rfl rfl).trans ?_; refine Eq.trans (b := gd (Nat.ble (j + 1) 12) (shO (rt0 8 j) 3 0 (gft f (rt0 8 j) 0 fun v => vB (vM MT0 D) (vFn (vM MT0 D) nb_X9_echoNamed (F1 + 1)) ((2, 4, 3, 4, 0, 0, 0), []) [(5, 1, 1, 0, 0, 0, 0), (20, 0, 0, 0, 0, 0, 0)] 0 [vR 7, vJ x, vW 3, vI j] [v] f))) rfl ?_))
      rw [Nat.ble_eq_true_of_le (show j + 1 ≤ 12 by omega), rtE_7 hj9, (shE_7 hj9).1]
      (first | (exact rfl) | (refine (vF_g rfl rfl).trans ?_; refine (vF_g rfl rfl).trans ?_; exact rfl) | (refine (vF_g rfl rfl).trans ?_; refine (vF_g rfl rfl).trans ?_; refine (vF_g rfl rfl).trans ?_; exact rfl) | (refine (vF_g rfl rfl).trans ?_; exact rfl))
    rw [e2, show fidx (fun j => f (10 + j) 0) x (m + 1) j = if f (10 + j) 0 = x then j else fidx (fun j => f (10 + j) 0) x m (j + 1) from rfl]
    have hy := hn j (by omega)
    by_cases q : f (10 + j) 0 = x
    · rw [if_pos q, vlc, if_neg (by rw [q]; exact Int.lt_irrefl _), if_pos (by rw [q])]
      (first | (exact rfl) | (refine (vF_g rfl rfl).trans ?_; refine (vF_g rfl rfl).trans ?_; exact rfl) | (refine (vF_g rfl rfl).trans ?_; refine (vF_g rfl rfl).trans ?_; refine (vF_g rfl rfl).trans ?_; exact rfl) | (refine (vF_g rfl rfl).trans ?_; exact rfl))
    · have e4 : ∀ a b : Option VR, (if lsg (f (10 + j) 0) < lsg x then a else if lsg (f (10 + j) 0) = lsg x then b else a) = a := by
        intro a b
        by_cases w : lsg (f (10 + j) 0) < lsg x
        · rw [if_pos w]
        · rw [if_neg w, if_neg (fun z => q ((lsg_e hy hx).mp z))]
      rw [if_neg q, vlc, e4]
      (first | (refine Eq.trans (b := vFn (vM MT0 D) nb_X9_echoNamed F1 1 0 [vR 7, vJ x, vW 3, vI ((j + 1) % 4294967296)] [] f) rfl ?_) | (refine (vF_g rfl rfl).trans ?_; refine (vF_g rfl rfl).trans ?_; refine Eq.trans (b := vFn (vM MT0 D) nb_X9_echoNamed F1 1 0 [vR 7, vJ x, vW 3, vI ((j + 1) % 4294967296)] [] f) rfl ?_) | (refine (vF_g rfl rfl).trans ?_; refine Eq.trans (b := vFn (vM MT0 D) nb_X9_echoNamed F1 1 0 [vR 7, vJ x, vW 3, vI ((j + 1) % 4294967296)] [] f) rfl ?_))
      rw [Nat.mod_eq_of_lt (show j + 1 < 4294967296 by omega)]
      exact ih (j + 1) F1 (by omega) (by omega)
theorem v_echoNamed7 {D x c : Nat} {f : Vw} (hx : x < 9223372036854775808) (hc : f 7 2 = c) (hc9 : c ≤ 12) (hn : ∀ j, j < c → f (10 + j) 0 < 9223372036854775808) : vM MT0 (D + 1) 71 [vR 7, vJ x] f = some ((0, 0), vI (fidx (fun j => f (10 + j) 0) x c 0), f) :=
  vM_go rfl rfl rfl rfl fun F hF => (by (first | (refine Eq.trans (b := vFn (vM MT0 D) nb_X9_echoNamed (F + 59) 1 0 [vR 7, vJ x, vW 3, vI 0] [] f) rfl ?_) | (refine (vF_g rfl rfl).trans ?_; refine (vF_g rfl rfl).trans ?_; refine Eq.trans (b := vFn (vM MT0 D) nb_X9_echoNamed (F + 59) 1 0 [vR 7, vJ x, vW 3, vI 0] [] f) rfl ?_) | (refine (vF_g rfl rfl).trans ?_; refine Eq.trans (b := vFn (vM MT0 D) nb_X9_echoNamed (F + 59) 1 0 [vR 7, vJ x, vW 3, vI 0] [] f) rfl ?_)); (first | (exact (echoNamed_l7 hx hc hc9 hn c 0 (F + 59) (by omega) (by omega))) | (refine (vF_g rfl rfl).trans ?_; refine (vF_g rfl rfl).trans ?_; exact (echoNamed_l7 hx hc hc9 hn c 0 (F + 59) (by omega) (by omega))) | (refine (vF_g rfl rfl).trans ?_; exact (echoNamed_l7 hx hc hc9 hn c 0 (F + 59) (by omega) (by omega)))))
theorem valleyNamed_l7 {D x c : Nat} {f : Vw} (hx : x < 9223372036854775808) (hc : f 7 3 = c) (hc9 : c ≤ 8) (hn : ∀ j, j < c → f (22 + 3 * j) 0 < 9223372036854775808) : ∀ (m j F : Nat), j + m = c → 3 * m + 3 ≤ F → vFn (vM MT0 D) nb_X9_valleyNamed F 1 0 [vR 7, vJ x, vW 3, vI j] [] f = some ((0, 0), vI (fidx (fun j => f (22 + 3 * j) 0) x m j), f) := by
  intro m
  induction m with
  | zero =>
    intro j F hj hF
    obtain ⟨F1, rfl⟩ : ∃ F1, F = F1 + 2 := ⟨F - 2, by omega⟩
    (first | (refine (vge2 (x := j) (y := f 7 3) (by omega) (by rw [hc]; omega)).trans ?_) | (refine (vF_g rfl rfl).trans ?_; refine (vF_g rfl rfl).trans ?_; refine (vge2 (x := j) (y := f 7 3) (by omega) (by rw [hc]; omega)).trans ?_) | (refine (vF_g rfl rfl).trans ?_; refine (vge2 (x := j) (y := f 7 3) (by omega) (by rw [hc]; omega)).trans ?_))
    (first | (exact rfl) | (refine (vF_g rfl rfl).trans ?_; refine (vF_g rfl rfl).trans ?_; exact rfl) | (refine (vF_g rfl rfl).trans ?_; refine (vF_g rfl rfl).trans ?_; refine (vF_g rfl rfl).trans ?_; exact rfl) | (refine (vF_g rfl rfl).trans ?_; exact rfl))
  | succ m ih =>
    intro j F hj hF
    obtain ⟨F1, rfl⟩ : ∃ F1, F = F1 + 3 := ⟨F - 3, by omega⟩
    have hj9 : j < 8 := by omega
    (first | (refine (vlt (x := j) (y := f 7 3) (by rw [hc]; omega) (by rw [hc]; omega)).trans ?_) | (refine (vF_g rfl rfl).trans ?_; refine (vF_g rfl rfl).trans ?_; refine (vlt (x := j) (y := f 7 3) (by rw [hc]; omega) (by rw [hc]; omega)).trans ?_) | (refine (vF_g rfl rfl).trans ?_; refine (vlt (x := j) (y := f 7 3) (by rw [hc]; omega) (by rw [hc]; omega)).trans ?_))
    have e2 : vFn (vM MT0 D) nb_X9_valleyNamed (F1 + 2) 2 0 [vR 7, vJ x, vW 3, vI j] [] f = vc3 (bv (toN (lg_cmp (lN (f (22 + 3 * j) 0)) (lN x)))) (bv 0) (vFn (vM MT0 D) nb_X9_valleyNamed (F1 + 1) 4 0 [vR 7, vJ x, vW 3, vI j] [] f) (vFn (vM MT0 D) nb_X9_valleyNamed (F1 + 1) 3 0 [vR 7, vJ x, vW 3, vI j] [] f) (vFn (vM MT0 D) nb_X9_valleyNamed (F1 + 1) 4 0 [vR 7, vJ x, vW 3, vI j] [] f) := by
      (first | (refine Eq.trans (b := gd (Nat.ble (j + 1) 8) (shO (rt0 9 j) 8 0 (gft f (rt0 9 j) 0 fun v => vB (vM MT0 D) (vFn (vM MT0 D) nb_X9_valleyNamed (F1 + 1)) ((2, 4, 3, 4, 0, 0, 0), []) [(5, 1, 1, 0, 0, 0, 0), (20, 0, 0, 0, 0, 0, 0)] 0 [vR 7, vJ x, vW 3, vI j] [v] f))) rfl ?_) | (refine (vF_g rfl rfl).trans ?_; refine (vF_g rfl rfl).trans ?_; refine Eq.trans (b := gd (Nat.ble (j + 1) 8) (shO (rt0 9 j) 8 0 (gft f (rt0 9 j) 0 fun v => vB (vM MT0 D) (vFn (vM MT0 D) nb_X9_valleyNamed (F1 + 1)) ((2, 4, 3, 4, 0, 0, 0), []) [(5, 1, 1, 0, 0, 0, 0), (20, 0, 0, 0, 0, 0, 0)] 0 [vR 7, vJ x, vW 3, vI j] [v] f))) rfl ?_) | (refine (vF_g rfl rfl).trans ?_; refine Eq.trans (b := gd (Nat.ble (j + 1) 8) (shO (rt0 9 j) 8 0 (gft f (rt0 9 j) 0 fun v => vB (vM MT0 D) (vFn (vM MT0 D) nb_X9_valleyNamed (F1 + 1)) ((2, 4, 3, 4, 0, 0, 0), []) [(5, 1, 1, 0, 0, 0, 0), (20, 0, 0, 0, 0, 0, 0)] 0 [vR 7, vJ x, vW 3, vI j] [v] f))) rfl ?_))
      rw [Nat.ble_eq_true_of_le (show j + 1 ≤ 8 by omega), rtV_7 hj9, (shV_7 hj9).1]
      (first | (exact rfl) | (refine (vF_g rfl rfl).trans ?_; refine (vF_g rfl rfl).trans ?_; exact rfl) | (refine (vF_g rfl rfl).trans ?_; refine (vF_g rfl rfl).trans ?_; refine (vF_g rfl rfl).trans ?_; exact rfl) | (refine (vF_g rfl rfl).trans ?_; exact rfl))
    rw [e2, show fidx (fun j => f (22 + 3 * j) 0) x (m + 1) j = if f (22 + 3 * j) 0 = x then j else fidx (fun j => f (22 + 3 * j) 0) x m (j + 1) from rfl]
    have hy := hn j (by omega)
    by_cases q : f (22 + 3 * j) 0 = x
    · rw [if_pos q, vlc, if_neg (by rw [q]; exact Int.lt_irrefl _), if_pos (by rw [q])]
      (first | (exact rfl) | (refine (vF_g rfl rfl).trans ?_; refine (vF_g rfl rfl).trans ?_; exact rfl) | (refine (vF_g rfl rfl).trans ?_; refine (vF_g rfl rfl).trans ?_; refine (vF_g rfl rfl).trans ?_; exact rfl) | (refine (vF_g rfl rfl).trans ?_; exact rfl))
    · have e4 : ∀ a b : Option VR, (if lsg (f (22 + 3 * j) 0) < lsg x then a else if lsg (f (22 + 3 * j) 0) = lsg x then b else a) = a := by
        intro a b
        by_cases w : lsg (f (22 + 3 * j) 0) < lsg x
        · rw [if_pos w]
        · rw [if_neg w, if_neg (fun z => q ((lsg_e hy hx).mp z))]
      rw [if_neg q, vlc, e4]
      (first | (refine Eq.trans (b := vFn (vM MT0 D) nb_X9_valleyNamed F1 1 0 [vR 7, vJ x, vW 3, vI ((j + 1) % 4294967296)] [] f) rfl ?_) | (refine (vF_g rfl rfl).trans ?_; refine (vF_g rfl rfl).trans ?_; refine Eq.trans (b := vFn (vM MT0 D) nb_X9_valleyNamed F1 1 0 [vR 7, vJ x, vW 3, vI ((j + 1) % 4294967296)] [] f) rfl ?_) | (refine (vF_g rfl rfl).trans ?_; refine Eq.trans (b := vFn (vM MT0 D) nb_X9_valleyNamed F1 1 0 [vR 7, vJ x, vW 3, vI ((j + 1) % 4294967296)] [] f) rfl ?_))
      rw [Nat.mod_eq_of_lt (show j + 1 < 4294967296 by omega)]
      exact ih (j + 1) F1 (by omega) (by omega)
theorem v_valleyNamed7 {D x c : Nat} {f : Vw} (hx : x < 9223372036854775808) (hc : f 7 3 = c) (hc9 : c ≤ 8) (hn : ∀ j, j < c → f (22 + 3 * j) 0 < 9223372036854775808) : vM MT0 (D + 1) 72 [vR 7, vJ x] f = some ((0, 0), vI (fidx (fun j => f (22 + 3 * j) 0) x c 0), f) :=
  vM_go rfl rfl rfl rfl fun F hF => (by (first | (refine Eq.trans (b := vFn (vM MT0 D) nb_X9_valleyNamed (F + 59) 1 0 [vR 7, vJ x, vW 3, vI 0] [] f) rfl ?_) | (refine (vF_g rfl rfl).trans ?_; refine (vF_g rfl rfl).trans ?_; refine Eq.trans (b := vFn (vM MT0 D) nb_X9_valleyNamed (F + 59) 1 0 [vR 7, vJ x, vW 3, vI 0] [] f) rfl ?_) | (refine (vF_g rfl rfl).trans ?_; refine Eq.trans (b := vFn (vM MT0 D) nb_X9_valleyNamed (F + 59) 1 0 [vR 7, vJ x, vW 3, vI 0] [] f) rfl ?_)); (first | (exact (valleyNamed_l7 hx hc hc9 hn c 0 (F + 59) (by omega) (by omega))) | (refine (vF_g rfl rfl).trans ?_; refine (vF_g rfl rfl).trans ?_; exact (valleyNamed_l7 hx hc hc9 hn c 0 (F + 59) (by omega) (by omega))) | (refine (vF_g rfl rfl).trans ?_; exact (valleyNamed_l7 hx hc hc9 hn c 0 (F + 59) (by omega) (by omega)))))
end
section
/-! the program's names of a world, taken -/
theorem fidx_c {g h : Nat → Nat} {x : Nat} : ∀ (m j : Nat), (∀ i, i < j + m → g i = h i) → fidx g x m j = fidx h x m j := by
  intro m
  induction m with
  | zero => intro j _; rfl
  | succ m ih =>
    intro j hh
    show (if g j = x then j else fidx g x m (j + 1)) = if h j = x then j else fidx h x m (j + 1)
    rw [hh j (by omega), ih (j + 1) (fun i hi => hh i (by omega))]
theorem fidx_lt {g : Nat → Nat} {x : Nat} : ∀ (m j : Nat), fidx g x m j = 4294967295 ∨ (j ≤ fidx g x m j ∧ fidx g x m j < j + m ∧ g (fidx g x m j) = x) := by
  intro m
  induction m with
  | zero => intro j; exact Or.inl rfl
  | succ m ih =>
    intro j
    show (if g j = x then j else fidx g x m (j + 1)) = 4294967295 ∨ (j ≤ (if g j = x then j else fidx g x m (j + 1)) ∧ (if g j = x then j else fidx g x m (j + 1)) < j + (m + 1) ∧ g (if g j = x then j else fidx g x m (j + 1)) = x)
    by_cases q : g j = x
    · rw [if_pos q]
      exact Or.inr ⟨Nat.le_refl _, by omega, q⟩
    · rw [if_neg q]
      rcases ih (j + 1) with h | ⟨h1, h2, h3⟩
      · exact Or.inl h
      · exact Or.inr ⟨by omega, by omega, h3⟩
theorem nmr_len {T : Nat → Nat} {s : Nat} : ∀ z : Nat, (nmr T s z).length = z := by
  intro z
  induction z with
  | zero => rfl
  | succ z ih =>
    show (nmr T s z).length + 1 = z + 1
    rw [ih]
theorem nmr_mem {T : Nat → Nat} {s c : Nat} : ∀ {z : Nat}, c ∈ nmr T s z → ∃ j, j < z ∧ T (s + j) = c := by
  intro z
  induction z with
  | zero => intro h; cases h
  | succ z ih =>
    intro h
    rcases List.mem_cons.mp h with q | q
    · exact ⟨z, Nat.lt_succ_self z, q.symm⟩
    · obtain ⟨j, h1, h2⟩ := ih q
      exact ⟨j, Nat.lt_succ_of_lt h1, h2⟩
theorem tN_lt {T : Nat → Nat} {p : Nat} (h : nOK T p) : pkr (tN T p) < 9223372036854775808 := by
  have h1 : ∀ c ∈ tN T p, c < 256 := by
    intro c hc
    obtain ⟨j, hj, rfl⟩ := nmr_mem hc
    have := word_l h.1 j hj
    omega
  have h2 := pkr_lt h1
  have h3 : (tN T p).length ≤ 6 := by
    unfold tN
    rw [nmr_len]
    exact h.2
  have h4 : 256 ^ (tN T p).length ≤ 256 ^ 6 := Nat.pow_le_pow_right (by decide) h3
  have h5 : 256 ^ 6 < 9223372036854775808 := by decide
  omega
theorem v_takeEcho46 {D n p c : Nat} {T N : Nat → Nat} {f : Vw} (hx : TxC f n T) (hp9 : f 446 1 = p) (hp : p ≤ n) (hc : f 46 2 = c) (hc9 : c ≤ 12) (hN : ∀ j, j < c → f (49 + j) 0 = N j ∧ N j < 9223372036854775808) : (¬ nOK T p → vM MT0 (D + 4) 57 [vR 446, vR 46] f = some ((0, 0), vI 0, fl 1 (tk9 f T p))) ∧ (nOK T p → fidx N (pkr (tN T p)) c 0 = 4294967295 → vM MT0 (D + 4) 57 [vR 446, vR 46] f = some ((0, 0), vI 0, fl 3 (vup (tk9 f T p) 446 5 (fidx N (pkr (tN T p)) c 0)))) ∧ (nOK T p → fidx N (pkr (tN T p)) c 0 ≠ 4294967295 → vM MT0 (D + 4) 57 [vR 446, vR 46] f = some ((0, 0), vI 1, vup (tk9 f T p) 446 5 (fidx N (pkr (tN T p)) c 0))) := by
  obtain ⟨a1, a2⟩ := tS_le hx.2.2.2.2 hp
  have hn9 := hx.1
  obtain ⟨w1, w2⟩ := v_isName9 (D := D + 2) (txC_tk (f := f) (p := p) hx) hp tkq_2 tkq_4
  have g : ∀ j, j < c → tk9 f T p (49 + j) 0 = N j := fun j hj => (tkv_o (Or.inr (Or.inl rfl))).trans (hN j hj).1
  have e5 : vup (tk9 f T p) 446 5 (fidx N (pkr (tN T p)) c 0) 446 5 = fidx N (pkr (tN T p)) c 0 := vup_eq
  have key : nOK T p → ∀ F, vFn (vM MT0 (D + 3)) nb_X7_takeEcho (F + 60) 0 0 [vR 446, vR 46] [] f = vc3 (bv ((vup (tk9 f T p) 446 5 (fidx N (pkr (tN T p)) c 0)) 446 5)) (bv 4294967295) (vFn (vM MT0 (D + 3)) nb_X7_takeEcho (F + 58) 4 0 [vR 446, vR 46] [] (vup (tk9 f T p) 446 5 (fidx N (pkr (tN T p)) c 0))) (vFn (vM MT0 (D + 3)) nb_X7_takeEcho (F + 58) 3 0 [vR 446, vR 46] [] (vup (tk9 f T p) 446 5 (fidx N (pkr (tN T p)) c 0))) (vFn (vM MT0 (D + 3)) nb_X7_takeEcho (F + 58) 4 0 [vR 446, vR 46] [] (vup (tk9 f T p) 446 5 (fidx N (pkr (tN T p)) c 0))) := by
    intro h F
    have e1 := v_nameAt (D := D + 1) (s := tk9 f T p 446 3) (z := tk9 f T p 446 4) (txC_tk (f := f) (p := p) hx) (by rw [tkq_3]; omega) (by rw [tkq_4]; exact word_1 h.1) (by rw [tkq_4]; exact h.2) (fun j hj => by rw [tkq_3]; exact word_l h.1 j (by rw [← tkq_4]; exact hj))
    rw [tkq_3, tkq_4] at e1
    have e2 := v_echoNamed46 (D := D + 2) (x := pkr (tN T p)) (c := c) (f := tk9 f T p) (tN_lt h) ((tkv_o (Or.inl (by decide))).trans hc) hc9 (fun j hj => by rw [g j hj]; exact (hN j hj).2)
    rw [fidx_c (h := N) c 0 (fun i hi => g i (by omega))] at e2
    (first | (refine (vbnd_1 (v_next9 hx hp9 hp)).trans ?_) | (refine (vF_g rfl rfl).trans ?_; refine (vF_g rfl rfl).trans ?_; refine (vbnd_1 (v_next9 hx hp9 hp)).trans ?_) | (refine (vF_g rfl rfl).trans ?_; refine (vbnd_1 (v_next9 hx hp9 hp)).trans ?_))
    (first | (refine (vbnd_0 (w1 h)).trans ?_) | (refine (vF_g rfl rfl).trans ?_; refine (vF_g rfl rfl).trans ?_; refine (vbnd_0 (w1 h)).trans ?_) | (refine (vF_g rfl rfl).trans ?_; refine (vbnd_0 (w1 h)).trans ?_))
    (first | (refine (vgt (x := 1) (y := 0) (by decide) (by decide)).trans ?_) | (refine (vF_g rfl rfl).trans ?_; refine (vF_g rfl rfl).trans ?_; refine (vgt (x := 1) (y := 0) (by decide) (by decide)).trans ?_) | (refine (vF_g rfl rfl).trans ?_; refine (vgt (x := 1) (y := 0) (by decide) (by decide)).trans ?_))
    (first | (refine (vbnd_0 e1).trans ?_) | (refine (vF_g rfl rfl).trans ?_; refine (vF_g rfl rfl).trans ?_; refine (vbnd_0 e1).trans ?_) | (refine (vF_g rfl rfl).trans ?_; refine (vbnd_0 e1).trans ?_))
    (first | (refine (vbnd_0 e2).trans ?_) | (refine (vF_g rfl rfl).trans ?_; refine (vF_g rfl rfl).trans ?_; refine (vbnd_0 e2).trans ?_) | (refine (vF_g rfl rfl).trans ?_; refine (vbnd_0 e2).trans ?_))
    (first | (exact rfl) | (refine (vF_g rfl rfl).trans ?_; refine (vF_g rfl rfl).trans ?_; exact rfl) | (refine (vF_g rfl rfl).trans ?_; refine (vF_g rfl rfl).trans ?_; refine (vF_g rfl rfl).trans ?_; exact rfl) | (refine (vF_g rfl rfl).trans ?_; exact rfl))
  refine ⟨fun h => ?_, fun h h2 => ?_, fun h h2 => ?_⟩
  · refine vM_go rfl rfl rfl rfl fun F hF => ?_
    (first | (refine (vbnd_1 (v_next9 hx hp9 hp)).trans ?_) | (refine (vF_g rfl rfl).trans ?_; refine (vF_g rfl rfl).trans ?_; refine (vbnd_1 (v_next9 hx hp9 hp)).trans ?_) | (refine (vF_g rfl rfl).trans ?_; refine (vbnd_1 (v_next9 hx hp9 hp)).trans ?_))
    (first | (refine (vbnd_0 (w2 h)).trans ?_) | (refine (vF_g rfl rfl).trans ?_; refine (vF_g rfl rfl).trans ?_; refine (vbnd_0 (w2 h)).trans ?_) | (refine (vF_g rfl rfl).trans ?_; refine (vbnd_0 (w2 h)).trans ?_))
    (first | (refine (veq (x := 0) (y := 0) rfl).trans ?_) | (refine (vF_g rfl rfl).trans ?_; refine (vF_g rfl rfl).trans ?_; refine (veq (x := 0) (y := 0) rfl).trans ?_) | (refine (vF_g rfl rfl).trans ?_; refine (veq (x := 0) (y := 0) rfl).trans ?_))
    (first | (refine (vbnd_0 v_fail9).trans ?_) | (refine (vF_g rfl rfl).trans ?_; refine (vF_g rfl rfl).trans ?_; refine (vbnd_0 v_fail9).trans ?_) | (refine (vF_g rfl rfl).trans ?_; refine (vbnd_0 v_fail9).trans ?_))
    (first | (exact rfl) | (refine (vF_g rfl rfl).trans ?_; refine (vF_g rfl rfl).trans ?_; exact rfl) | (refine (vF_g rfl rfl).trans ?_; refine (vF_g rfl rfl).trans ?_; refine (vF_g rfl rfl).trans ?_; exact rfl) | (refine (vF_g rfl rfl).trans ?_; exact rfl))
  · refine vM_go rfl rfl rfl rfl fun F hF => (key h F).trans ?_
    (first | (refine (veq (e5.trans h2)).trans ?_) | (refine (vF_g rfl rfl).trans ?_; refine (vF_g rfl rfl).trans ?_; refine (veq (e5.trans h2)).trans ?_) | (refine (vF_g rfl rfl).trans ?_; refine (veq (e5.trans h2)).trans ?_))
    (first | (refine (vbnd_0 v_fail9).trans ?_) | (refine (vF_g rfl rfl).trans ?_; refine (vF_g rfl rfl).trans ?_; refine (vbnd_0 v_fail9).trans ?_) | (refine (vF_g rfl rfl).trans ?_; refine (vbnd_0 v_fail9).trans ?_))
    (first | (refine (veq (x := 0) (y := 0) rfl).trans ?_) | (refine (vF_g rfl rfl).trans ?_; refine (vF_g rfl rfl).trans ?_; refine (veq (x := 0) (y := 0) rfl).trans ?_) | (refine (vF_g rfl rfl).trans ?_; refine (veq (x := 0) (y := 0) rfl).trans ?_))
    (first | (exact rfl) | (refine (vF_g rfl rfl).trans ?_; refine (vF_g rfl rfl).trans ?_; exact rfl) | (refine (vF_g rfl rfl).trans ?_; refine (vF_g rfl rfl).trans ?_; refine (vF_g rfl rfl).trans ?_; exact rfl) | (refine (vF_g rfl rfl).trans ?_; exact rfl))
  · have hl : fidx N (pkr (tN T p)) c 0 < 4294967296 := by
      rcases fidx_lt (g := N) (x := pkr (tN T p)) c 0 with q | ⟨_, q, _⟩ <;> omega
    refine vM_go rfl rfl rfl rfl fun F hF => (key h F).trans ?_
    (first | (refine (vne (by rw [e5]; exact hl) (by decide) (by rw [e5]; exact h2)).trans ?_) | (refine (vF_g rfl rfl).trans ?_; refine (vF_g rfl rfl).trans ?_; refine (vne (by rw [e5]; exact hl) (by decide) (by rw [e5]; exact h2)).trans ?_) | (refine (vF_g rfl rfl).trans ?_; refine (vne (by rw [e5]; exact hl) (by decide) (by rw [e5]; exact h2)).trans ?_))
    (first | (exact rfl) | (refine (vF_g rfl rfl).trans ?_; refine (vF_g rfl rfl).trans ?_; exact rfl) | (refine (vF_g rfl rfl).trans ?_; refine (vF_g rfl rfl).trans ?_; refine (vF_g rfl rfl).trans ?_; exact rfl) | (refine (vF_g rfl rfl).trans ?_; exact rfl))
theorem v_takeValley46 {D n p c : Nat} {T N : Nat → Nat} {f : Vw} (hx : TxC f n T) (hp9 : f 446 1 = p) (hp : p ≤ n) (hc : f 46 3 = c) (hc9 : c ≤ 8) (hN : ∀ j, j < c → f (61 + 3 * j) 0 = N j ∧ N j < 9223372036854775808) : (¬ nOK T p → vM MT0 (D + 4) 58 [vR 446, vR 46] f = some ((0, 0), vI 0, fl 1 (tk9 f T p))) ∧ (nOK T p → fidx N (pkr (tN T p)) c 0 = 4294967295 → vM MT0 (D + 4) 58 [vR 446, vR 46] f = some ((0, 0), vI 0, fl 3 (vup (tk9 f T p) 446 5 (fidx N (pkr (tN T p)) c 0)))) ∧ (nOK T p → fidx N (pkr (tN T p)) c 0 ≠ 4294967295 → vM MT0 (D + 4) 58 [vR 446, vR 46] f = some ((0, 0), vI 1, vup (tk9 f T p) 446 5 (fidx N (pkr (tN T p)) c 0))) := by
  obtain ⟨a1, a2⟩ := tS_le hx.2.2.2.2 hp
  have hn9 := hx.1
  obtain ⟨w1, w2⟩ := v_isName9 (D := D + 2) (txC_tk (f := f) (p := p) hx) hp tkq_2 tkq_4
  have g : ∀ j, j < c → tk9 f T p (61 + 3 * j) 0 = N j := fun j hj => (tkv_o (Or.inr (Or.inl rfl))).trans (hN j hj).1
  have e5 : vup (tk9 f T p) 446 5 (fidx N (pkr (tN T p)) c 0) 446 5 = fidx N (pkr (tN T p)) c 0 := vup_eq
  have key : nOK T p → ∀ F, vFn (vM MT0 (D + 3)) nb_X7_takeValley (F + 60) 0 0 [vR 446, vR 46] [] f = vc3 (bv ((vup (tk9 f T p) 446 5 (fidx N (pkr (tN T p)) c 0)) 446 5)) (bv 4294967295) (vFn (vM MT0 (D + 3)) nb_X7_takeValley (F + 58) 4 0 [vR 446, vR 46] [] (vup (tk9 f T p) 446 5 (fidx N (pkr (tN T p)) c 0))) (vFn (vM MT0 (D + 3)) nb_X7_takeValley (F + 58) 3 0 [vR 446, vR 46] [] (vup (tk9 f T p) 446 5 (fidx N (pkr (tN T p)) c 0))) (vFn (vM MT0 (D + 3)) nb_X7_takeValley (F + 58) 4 0 [vR 446, vR 46] [] (vup (tk9 f T p) 446 5 (fidx N (pkr (tN T p)) c 0))) := by
    intro h F
    have e1 := v_nameAt (D := D + 1) (s := tk9 f T p 446 3) (z := tk9 f T p 446 4) (txC_tk (f := f) (p := p) hx) (by rw [tkq_3]; omega) (by rw [tkq_4]; exact word_1 h.1) (by rw [tkq_4]; exact h.2) (fun j hj => by rw [tkq_3]; exact word_l h.1 j (by rw [← tkq_4]; exact hj))
    rw [tkq_3, tkq_4] at e1
    have e2 := v_valleyNamed46 (D := D + 2) (x := pkr (tN T p)) (c := c) (f := tk9 f T p) (tN_lt h) ((tkv_o (Or.inl (by decide))).trans hc) hc9 (fun j hj => by rw [g j hj]; exact (hN j hj).2)
    rw [fidx_c (h := N) c 0 (fun i hi => g i (by omega))] at e2
    (first | (refine (vbnd_1 (v_next9 hx hp9 hp)).trans ?_) | (refine (vF_g rfl rfl).trans ?_; refine (vF_g rfl rfl).trans ?_; refine (vbnd_1 (v_next9 hx hp9 hp)).trans ?_) | (refine (vF_g rfl rfl).trans ?_; refine (vbnd_1 (v_next9 hx hp9 hp)).trans ?_))
    (first | (refine (vbnd_0 (w1 h)).trans ?_) | (refine (vF_g rfl rfl).trans ?_; refine (vF_g rfl rfl).trans ?_; refine (vbnd_0 (w1 h)).trans ?_) | (refine (vF_g rfl rfl).trans ?_; refine (vbnd_0 (w1 h)).trans ?_))
    (first | (refine (vgt (x := 1) (y := 0) (by decide) (by decide)).trans ?_) | (refine (vF_g rfl rfl).trans ?_; refine (vF_g rfl rfl).trans ?_; refine (vgt (x := 1) (y := 0) (by decide) (by decide)).trans ?_) | (refine (vF_g rfl rfl).trans ?_; refine (vgt (x := 1) (y := 0) (by decide) (by decide)).trans ?_))
    (first | (refine (vbnd_0 e1).trans ?_) | (refine (vF_g rfl rfl).trans ?_; refine (vF_g rfl rfl).trans ?_; refine (vbnd_0 e1).trans ?_) | (refine (vF_g rfl rfl).trans ?_; refine (vbnd_0 e1).trans ?_))
    (first | (refine (vbnd_0 e2).trans ?_) | (refine (vF_g rfl rfl).trans ?_; refine (vF_g rfl rfl).trans ?_; refine (vbnd_0 e2).trans ?_) | (refine (vF_g rfl rfl).trans ?_; refine (vbnd_0 e2).trans ?_))
    (first | (exact rfl) | (refine (vF_g rfl rfl).trans ?_; refine (vF_g rfl rfl).trans ?_; exact rfl) | (refine (vF_g rfl rfl).trans ?_; refine (vF_g rfl rfl).trans ?_; refine (vF_g rfl rfl).trans ?_; exact rfl) | (refine (vF_g rfl rfl).trans ?_; exact rfl))
  refine ⟨fun h => ?_, fun h h2 => ?_, fun h h2 => ?_⟩
  · refine vM_go rfl rfl rfl rfl fun F hF => ?_
    (first | (refine (vbnd_1 (v_next9 hx hp9 hp)).trans ?_) | (refine (vF_g rfl rfl).trans ?_; refine (vF_g rfl rfl).trans ?_; refine (vbnd_1 (v_next9 hx hp9 hp)).trans ?_) | (refine (vF_g rfl rfl).trans ?_; refine (vbnd_1 (v_next9 hx hp9 hp)).trans ?_))
    (first | (refine (vbnd_0 (w2 h)).trans ?_) | (refine (vF_g rfl rfl).trans ?_; refine (vF_g rfl rfl).trans ?_; refine (vbnd_0 (w2 h)).trans ?_) | (refine (vF_g rfl rfl).trans ?_; refine (vbnd_0 (w2 h)).trans ?_))
    (first | (refine (veq (x := 0) (y := 0) rfl).trans ?_) | (refine (vF_g rfl rfl).trans ?_; refine (vF_g rfl rfl).trans ?_; refine (veq (x := 0) (y := 0) rfl).trans ?_) | (refine (vF_g rfl rfl).trans ?_; refine (veq (x := 0) (y := 0) rfl).trans ?_))
    (first | (refine (vbnd_0 v_fail9).trans ?_) | (refine (vF_g rfl rfl).trans ?_; refine (vF_g rfl rfl).trans ?_; refine (vbnd_0 v_fail9).trans ?_) | (refine (vF_g rfl rfl).trans ?_; refine (vbnd_0 v_fail9).trans ?_))
    (first | (exact rfl) | (refine (vF_g rfl rfl).trans ?_; refine (vF_g rfl rfl).trans ?_; exact rfl) | (refine (vF_g rfl rfl).trans ?_; refine (vF_g rfl rfl).trans ?_; refine (vF_g rfl rfl).trans ?_; exact rfl) | (refine (vF_g rfl rfl).trans ?_; exact rfl))
  · refine vM_go rfl rfl rfl rfl fun F hF => (key h F).trans ?_
    (first | (refine (veq (e5.trans h2)).trans ?_) | (refine (vF_g rfl rfl).trans ?_; refine (vF_g rfl rfl).trans ?_; refine (veq (e5.trans h2)).trans ?_) | (refine (vF_g rfl rfl).trans ?_; refine (veq (e5.trans h2)).trans ?_))
    (first | (refine (vbnd_0 v_fail9).trans ?_) | (refine (vF_g rfl rfl).trans ?_; refine (vF_g rfl rfl).trans ?_; refine (vbnd_0 v_fail9).trans ?_) | (refine (vF_g rfl rfl).trans ?_; refine (vbnd_0 v_fail9).trans ?_))
    (first | (refine (veq (x := 0) (y := 0) rfl).trans ?_) | (refine (vF_g rfl rfl).trans ?_; refine (vF_g rfl rfl).trans ?_; refine (veq (x := 0) (y := 0) rfl).trans ?_) | (refine (vF_g rfl rfl).trans ?_; refine (veq (x := 0) (y := 0) rfl).trans ?_))
    (first | (exact rfl) | (refine (vF_g rfl rfl).trans ?_; refine (vF_g rfl rfl).trans ?_; exact rfl) | (refine (vF_g rfl rfl).trans ?_; refine (vF_g rfl rfl).trans ?_; refine (vF_g rfl rfl).trans ?_; exact rfl) | (refine (vF_g rfl rfl).trans ?_; exact rfl))
  · have hl : fidx N (pkr (tN T p)) c 0 < 4294967296 := by
      rcases fidx_lt (g := N) (x := pkr (tN T p)) c 0 with q | ⟨_, q, _⟩ <;> omega
    refine vM_go rfl rfl rfl rfl fun F hF => (key h F).trans ?_
    (first | (refine (vne (by rw [e5]; exact hl) (by decide) (by rw [e5]; exact h2)).trans ?_) | (refine (vF_g rfl rfl).trans ?_; refine (vF_g rfl rfl).trans ?_; refine (vne (by rw [e5]; exact hl) (by decide) (by rw [e5]; exact h2)).trans ?_) | (refine (vF_g rfl rfl).trans ?_; refine (vne (by rw [e5]; exact hl) (by decide) (by rw [e5]; exact h2)).trans ?_))
    (first | (exact rfl) | (refine (vF_g rfl rfl).trans ?_; refine (vF_g rfl rfl).trans ?_; exact rfl) | (refine (vF_g rfl rfl).trans ?_; refine (vF_g rfl rfl).trans ?_; refine (vF_g rfl rfl).trans ?_; exact rfl) | (refine (vF_g rfl rfl).trans ?_; exact rfl))
theorem v_takeEcho7 {D n p c : Nat} {T N : Nat → Nat} {f : Vw} (hx : TxC f n T) (hp9 : f 446 1 = p) (hp : p ≤ n) (hc : f 7 2 = c) (hc9 : c ≤ 12) (hN : ∀ j, j < c → f (10 + j) 0 = N j ∧ N j < 9223372036854775808) : (¬ nOK T p → vM MT0 (D + 4) 57 [vR 446, vR 7] f = some ((0, 0), vI 0, fl 1 (tk9 f T p))) ∧ (nOK T p → fidx N (pkr (tN T p)) c 0 = 4294967295 → vM MT0 (D + 4) 57 [vR 446, vR 7] f = some ((0, 0), vI 0, fl 3 (vup (tk9 f T p) 446 5 (fidx N (pkr (tN T p)) c 0)))) ∧ (nOK T p → fidx N (pkr (tN T p)) c 0 ≠ 4294967295 → vM MT0 (D + 4) 57 [vR 446, vR 7] f = some ((0, 0), vI 1, vup (tk9 f T p) 446 5 (fidx N (pkr (tN T p)) c 0))) := by
  obtain ⟨a1, a2⟩ := tS_le hx.2.2.2.2 hp
  have hn9 := hx.1
  obtain ⟨w1, w2⟩ := v_isName9 (D := D + 2) (txC_tk (f := f) (p := p) hx) hp tkq_2 tkq_4
  have g : ∀ j, j < c → tk9 f T p (10 + j) 0 = N j := fun j hj => (tkv_o (Or.inr (Or.inl rfl))).trans (hN j hj).1
  have e5 : vup (tk9 f T p) 446 5 (fidx N (pkr (tN T p)) c 0) 446 5 = fidx N (pkr (tN T p)) c 0 := vup_eq
  have key : nOK T p → ∀ F, vFn (vM MT0 (D + 3)) nb_X7_takeEcho (F + 60) 0 0 [vR 446, vR 7] [] f = vc3 (bv ((vup (tk9 f T p) 446 5 (fidx N (pkr (tN T p)) c 0)) 446 5)) (bv 4294967295) (vFn (vM MT0 (D + 3)) nb_X7_takeEcho (F + 58) 4 0 [vR 446, vR 7] [] (vup (tk9 f T p) 446 5 (fidx N (pkr (tN T p)) c 0))) (vFn (vM MT0 (D + 3)) nb_X7_takeEcho (F + 58) 3 0 [vR 446, vR 7] [] (vup (tk9 f T p) 446 5 (fidx N (pkr (tN T p)) c 0))) (vFn (vM MT0 (D + 3)) nb_X7_takeEcho (F + 58) 4 0 [vR 446, vR 7] [] (vup (tk9 f T p) 446 5 (fidx N (pkr (tN T p)) c 0))) := by
    intro h F
    have e1 := v_nameAt (D := D + 1) (s := tk9 f T p 446 3) (z := tk9 f T p 446 4) (txC_tk (f := f) (p := p) hx) (by rw [tkq_3]; omega) (by rw [tkq_4]; exact word_1 h.1) (by rw [tkq_4]; exact h.2) (fun j hj => by rw [tkq_3]; exact word_l h.1 j (by rw [← tkq_4]; exact hj))
    rw [tkq_3, tkq_4] at e1
    have e2 := v_echoNamed7 (D := D + 2) (x := pkr (tN T p)) (c := c) (f := tk9 f T p) (tN_lt h) ((tkv_o (Or.inl (by decide))).trans hc) hc9 (fun j hj => by rw [g j hj]; exact (hN j hj).2)
    rw [fidx_c (h := N) c 0 (fun i hi => g i (by omega))] at e2
    (first | (refine (vbnd_1 (v_next9 hx hp9 hp)).trans ?_) | (refine (vF_g rfl rfl).trans ?_; refine (vF_g rfl rfl).trans ?_; refine (vbnd_1 (v_next9 hx hp9 hp)).trans ?_) | (refine (vF_g rfl rfl).trans ?_; refine (vbnd_1 (v_next9 hx hp9 hp)).trans ?_))
    (first | (refine (vbnd_0 (w1 h)).trans ?_) | (refine (vF_g rfl rfl).trans ?_; refine (vF_g rfl rfl).trans ?_; refine (vbnd_0 (w1 h)).trans ?_) | (refine (vF_g rfl rfl).trans ?_; refine (vbnd_0 (w1 h)).trans ?_))
    (first | (refine (vgt (x := 1) (y := 0) (by decide) (by decide)).trans ?_) | (refine (vF_g rfl rfl).trans ?_; refine (vF_g rfl rfl).trans ?_; refine (vgt (x := 1) (y := 0) (by decide) (by decide)).trans ?_) | (refine (vF_g rfl rfl).trans ?_; refine (vgt (x := 1) (y := 0) (by decide) (by decide)).trans ?_))
    (first | (refine (vbnd_0 e1).trans ?_) | (refine (vF_g rfl rfl).trans ?_; refine (vF_g rfl rfl).trans ?_; refine (vbnd_0 e1).trans ?_) | (refine (vF_g rfl rfl).trans ?_; refine (vbnd_0 e1).trans ?_))
    (first | (refine (vbnd_0 e2).trans ?_) | (refine (vF_g rfl rfl).trans ?_; refine (vF_g rfl rfl).trans ?_; refine (vbnd_0 e2).trans ?_) | (refine (vF_g rfl rfl).trans ?_; refine (vbnd_0 e2).trans ?_))
    (first | (exact rfl) | (refine (vF_g rfl rfl).trans ?_; refine (vF_g rfl rfl).trans ?_; exact rfl) | (refine (vF_g rfl rfl).trans ?_; refine (vF_g rfl rfl).trans ?_; refine (vF_g rfl rfl).trans ?_; exact rfl) | (refine (vF_g rfl rfl).trans ?_; exact rfl))
  refine ⟨fun h => ?_, fun h h2 => ?_, fun h h2 => ?_⟩
  · refine vM_go rfl rfl rfl rfl fun F hF => ?_
    (first | (refine (vbnd_1 (v_next9 hx hp9 hp)).trans ?_) | (refine (vF_g rfl rfl).trans ?_; refine (vF_g rfl rfl).trans ?_; refine (vbnd_1 (v_next9 hx hp9 hp)).trans ?_) | (refine (vF_g rfl rfl).trans ?_; refine (vbnd_1 (v_next9 hx hp9 hp)).trans ?_))
    (first | (refine (vbnd_0 (w2 h)).trans ?_) | (refine (vF_g rfl rfl).trans ?_; refine (vF_g rfl rfl).trans ?_; refine (vbnd_0 (w2 h)).trans ?_) | (refine (vF_g rfl rfl).trans ?_; refine (vbnd_0 (w2 h)).trans ?_))
    (first | (refine (veq (x := 0) (y := 0) rfl).trans ?_) | (refine (vF_g rfl rfl).trans ?_; refine (vF_g rfl rfl).trans ?_; refine (veq (x := 0) (y := 0) rfl).trans ?_) | (refine (vF_g rfl rfl).trans ?_; refine (veq (x := 0) (y := 0) rfl).trans ?_))
    (first | (refine (vbnd_0 v_fail9).trans ?_) | (refine (vF_g rfl rfl).trans ?_; refine (vF_g rfl rfl).trans ?_; refine (vbnd_0 v_fail9).trans ?_) | (refine (vF_g rfl rfl).trans ?_; refine (vbnd_0 v_fail9).trans ?_))
    (first | (exact rfl) | (refine (vF_g rfl rfl).trans ?_; refine (vF_g rfl rfl).trans ?_; exact rfl) | (refine (vF_g rfl rfl).trans ?_; refine (vF_g rfl rfl).trans ?_; refine (vF_g rfl rfl).trans ?_; exact rfl) | (refine (vF_g rfl rfl).trans ?_; exact rfl))
  · refine vM_go rfl rfl rfl rfl fun F hF => (key h F).trans ?_
    (first | (refine (veq (e5.trans h2)).trans ?_) | (refine (vF_g rfl rfl).trans ?_; refine (vF_g rfl rfl).trans ?_; refine (veq (e5.trans h2)).trans ?_) | (refine (vF_g rfl rfl).trans ?_; refine (veq (e5.trans h2)).trans ?_))
    (first | (refine (vbnd_0 v_fail9).trans ?_) | (refine (vF_g rfl rfl).trans ?_; refine (vF_g rfl rfl).trans ?_; refine (vbnd_0 v_fail9).trans ?_) | (refine (vF_g rfl rfl).trans ?_; refine (vbnd_0 v_fail9).trans ?_))
    (first | (refine (veq (x := 0) (y := 0) rfl).trans ?_) | (refine (vF_g rfl rfl).trans ?_; refine (vF_g rfl rfl).trans ?_; refine (veq (x := 0) (y := 0) rfl).trans ?_) | (refine (vF_g rfl rfl).trans ?_; refine (veq (x := 0) (y := 0) rfl).trans ?_))
    (first | (exact rfl) | (refine (vF_g rfl rfl).trans ?_; refine (vF_g rfl rfl).trans ?_; exact rfl) | (refine (vF_g rfl rfl).trans ?_; refine (vF_g rfl rfl).trans ?_; refine (vF_g rfl rfl).trans ?_; exact rfl) | (refine (vF_g rfl rfl).trans ?_; exact rfl))
  · have hl : fidx N (pkr (tN T p)) c 0 < 4294967296 := by
      rcases fidx_lt (g := N) (x := pkr (tN T p)) c 0 with q | ⟨_, q, _⟩ <;> omega
    refine vM_go rfl rfl rfl rfl fun F hF => (key h F).trans ?_
    (first | (refine (vne (by rw [e5]; exact hl) (by decide) (by rw [e5]; exact h2)).trans ?_) | (refine (vF_g rfl rfl).trans ?_; refine (vF_g rfl rfl).trans ?_; refine (vne (by rw [e5]; exact hl) (by decide) (by rw [e5]; exact h2)).trans ?_) | (refine (vF_g rfl rfl).trans ?_; refine (vne (by rw [e5]; exact hl) (by decide) (by rw [e5]; exact h2)).trans ?_))
    (first | (exact rfl) | (refine (vF_g rfl rfl).trans ?_; refine (vF_g rfl rfl).trans ?_; exact rfl) | (refine (vF_g rfl rfl).trans ?_; refine (vF_g rfl rfl).trans ?_; refine (vF_g rfl rfl).trans ?_; exact rfl) | (refine (vF_g rfl rfl).trans ?_; exact rfl))
theorem v_takeValley7 {D n p c : Nat} {T N : Nat → Nat} {f : Vw} (hx : TxC f n T) (hp9 : f 446 1 = p) (hp : p ≤ n) (hc : f 7 3 = c) (hc9 : c ≤ 8) (hN : ∀ j, j < c → f (22 + 3 * j) 0 = N j ∧ N j < 9223372036854775808) : (¬ nOK T p → vM MT0 (D + 4) 58 [vR 446, vR 7] f = some ((0, 0), vI 0, fl 1 (tk9 f T p))) ∧ (nOK T p → fidx N (pkr (tN T p)) c 0 = 4294967295 → vM MT0 (D + 4) 58 [vR 446, vR 7] f = some ((0, 0), vI 0, fl 3 (vup (tk9 f T p) 446 5 (fidx N (pkr (tN T p)) c 0)))) ∧ (nOK T p → fidx N (pkr (tN T p)) c 0 ≠ 4294967295 → vM MT0 (D + 4) 58 [vR 446, vR 7] f = some ((0, 0), vI 1, vup (tk9 f T p) 446 5 (fidx N (pkr (tN T p)) c 0))) := by
  obtain ⟨a1, a2⟩ := tS_le hx.2.2.2.2 hp
  have hn9 := hx.1
  obtain ⟨w1, w2⟩ := v_isName9 (D := D + 2) (txC_tk (f := f) (p := p) hx) hp tkq_2 tkq_4
  have g : ∀ j, j < c → tk9 f T p (22 + 3 * j) 0 = N j := fun j hj => (tkv_o (Or.inr (Or.inl rfl))).trans (hN j hj).1
  have e5 : vup (tk9 f T p) 446 5 (fidx N (pkr (tN T p)) c 0) 446 5 = fidx N (pkr (tN T p)) c 0 := vup_eq
  have key : nOK T p → ∀ F, vFn (vM MT0 (D + 3)) nb_X7_takeValley (F + 60) 0 0 [vR 446, vR 7] [] f = vc3 (bv ((vup (tk9 f T p) 446 5 (fidx N (pkr (tN T p)) c 0)) 446 5)) (bv 4294967295) (vFn (vM MT0 (D + 3)) nb_X7_takeValley (F + 58) 4 0 [vR 446, vR 7] [] (vup (tk9 f T p) 446 5 (fidx N (pkr (tN T p)) c 0))) (vFn (vM MT0 (D + 3)) nb_X7_takeValley (F + 58) 3 0 [vR 446, vR 7] [] (vup (tk9 f T p) 446 5 (fidx N (pkr (tN T p)) c 0))) (vFn (vM MT0 (D + 3)) nb_X7_takeValley (F + 58) 4 0 [vR 446, vR 7] [] (vup (tk9 f T p) 446 5 (fidx N (pkr (tN T p)) c 0))) := by
    intro h F
    have e1 := v_nameAt (D := D + 1) (s := tk9 f T p 446 3) (z := tk9 f T p 446 4) (txC_tk (f := f) (p := p) hx) (by rw [tkq_3]; omega) (by rw [tkq_4]; exact word_1 h.1) (by rw [tkq_4]; exact h.2) (fun j hj => by rw [tkq_3]; exact word_l h.1 j (by rw [← tkq_4]; exact hj))
    rw [tkq_3, tkq_4] at e1
    have e2 := v_valleyNamed7 (D := D + 2) (x := pkr (tN T p)) (c := c) (f := tk9 f T p) (tN_lt h) ((tkv_o (Or.inl (by decide))).trans hc) hc9 (fun j hj => by rw [g j hj]; exact (hN j hj).2)
    rw [fidx_c (h := N) c 0 (fun i hi => g i (by omega))] at e2
    (first | (refine (vbnd_1 (v_next9 hx hp9 hp)).trans ?_) | (refine (vF_g rfl rfl).trans ?_; refine (vF_g rfl rfl).trans ?_; refine (vbnd_1 (v_next9 hx hp9 hp)).trans ?_) | (refine (vF_g rfl rfl).trans ?_; refine (vbnd_1 (v_next9 hx hp9 hp)).trans ?_))
    (first | (refine (vbnd_0 (w1 h)).trans ?_) | (refine (vF_g rfl rfl).trans ?_; refine (vF_g rfl rfl).trans ?_; refine (vbnd_0 (w1 h)).trans ?_) | (refine (vF_g rfl rfl).trans ?_; refine (vbnd_0 (w1 h)).trans ?_))
    (first | (refine (vgt (x := 1) (y := 0) (by decide) (by decide)).trans ?_) | (refine (vF_g rfl rfl).trans ?_; refine (vF_g rfl rfl).trans ?_; refine (vgt (x := 1) (y := 0) (by decide) (by decide)).trans ?_) | (refine (vF_g rfl rfl).trans ?_; refine (vgt (x := 1) (y := 0) (by decide) (by decide)).trans ?_))
    (first | (refine (vbnd_0 e1).trans ?_) | (refine (vF_g rfl rfl).trans ?_; refine (vF_g rfl rfl).trans ?_; refine (vbnd_0 e1).trans ?_) | (refine (vF_g rfl rfl).trans ?_; refine (vbnd_0 e1).trans ?_))
    (first | (refine (vbnd_0 e2).trans ?_) | (refine (vF_g rfl rfl).trans ?_; refine (vF_g rfl rfl).trans ?_; refine (vbnd_0 e2).trans ?_) | (refine (vF_g rfl rfl).trans ?_; refine (vbnd_0 e2).trans ?_))
    (first | (exact rfl) | (refine (vF_g rfl rfl).trans ?_; refine (vF_g rfl rfl).trans ?_; exact rfl) | (refine (vF_g rfl rfl).trans ?_; refine (vF_g rfl rfl).trans ?_; refine (vF_g rfl rfl).trans ?_; exact rfl) | (refine (vF_g rfl rfl).trans ?_; exact rfl))
  refine ⟨fun h => ?_, fun h h2 => ?_, fun h h2 => ?_⟩
  · refine vM_go rfl rfl rfl rfl fun F hF => ?_
    (first | (refine (vbnd_1 (v_next9 hx hp9 hp)).trans ?_) | (refine (vF_g rfl rfl).trans ?_; refine (vF_g rfl rfl).trans ?_; refine (vbnd_1 (v_next9 hx hp9 hp)).trans ?_) | (refine (vF_g rfl rfl).trans ?_; refine (vbnd_1 (v_next9 hx hp9 hp)).trans ?_))
    (first | (refine (vbnd_0 (w2 h)).trans ?_) | (refine (vF_g rfl rfl).trans ?_; refine (vF_g rfl rfl).trans ?_; refine (vbnd_0 (w2 h)).trans ?_) | (refine (vF_g rfl rfl).trans ?_; refine (vbnd_0 (w2 h)).trans ?_))
    (first | (refine (veq (x := 0) (y := 0) rfl).trans ?_) | (refine (vF_g rfl rfl).trans ?_; refine (vF_g rfl rfl).trans ?_; refine (veq (x := 0) (y := 0) rfl).trans ?_) | (refine (vF_g rfl rfl).trans ?_; refine (veq (x := 0) (y := 0) rfl).trans ?_))
    (first | (refine (vbnd_0 v_fail9).trans ?_) | (refine (vF_g rfl rfl).trans ?_; refine (vF_g rfl rfl).trans ?_; refine (vbnd_0 v_fail9).trans ?_) | (refine (vF_g rfl rfl).trans ?_; refine (vbnd_0 v_fail9).trans ?_))
    (first | (exact rfl) | (refine (vF_g rfl rfl).trans ?_; refine (vF_g rfl rfl).trans ?_; exact rfl) | (refine (vF_g rfl rfl).trans ?_; refine (vF_g rfl rfl).trans ?_; refine (vF_g rfl rfl).trans ?_; exact rfl) | (refine (vF_g rfl rfl).trans ?_; exact rfl))
  · refine vM_go rfl rfl rfl rfl fun F hF => (key h F).trans ?_
    (first | (refine (veq (e5.trans h2)).trans ?_) | (refine (vF_g rfl rfl).trans ?_; refine (vF_g rfl rfl).trans ?_; refine (veq (e5.trans h2)).trans ?_) | (refine (vF_g rfl rfl).trans ?_; refine (veq (e5.trans h2)).trans ?_))
    (first | (refine (vbnd_0 v_fail9).trans ?_) | (refine (vF_g rfl rfl).trans ?_; refine (vF_g rfl rfl).trans ?_; refine (vbnd_0 v_fail9).trans ?_) | (refine (vF_g rfl rfl).trans ?_; refine (vbnd_0 v_fail9).trans ?_))
    (first | (refine (veq (x := 0) (y := 0) rfl).trans ?_) | (refine (vF_g rfl rfl).trans ?_; refine (vF_g rfl rfl).trans ?_; refine (veq (x := 0) (y := 0) rfl).trans ?_) | (refine (vF_g rfl rfl).trans ?_; refine (veq (x := 0) (y := 0) rfl).trans ?_))
    (first | (exact rfl) | (refine (vF_g rfl rfl).trans ?_; refine (vF_g rfl rfl).trans ?_; exact rfl) | (refine (vF_g rfl rfl).trans ?_; refine (vF_g rfl rfl).trans ?_; refine (vF_g rfl rfl).trans ?_; exact rfl) | (refine (vF_g rfl rfl).trans ?_; exact rfl))
  · have hl : fidx N (pkr (tN T p)) c 0 < 4294967296 := by
      rcases fidx_lt (g := N) (x := pkr (tN T p)) c 0 with q | ⟨_, q, _⟩ <;> omega
    refine vM_go rfl rfl rfl rfl fun F hF => (key h F).trans ?_
    (first | (refine (vne (by rw [e5]; exact hl) (by decide) (by rw [e5]; exact h2)).trans ?_) | (refine (vF_g rfl rfl).trans ?_; refine (vF_g rfl rfl).trans ?_; refine (vne (by rw [e5]; exact hl) (by decide) (by rw [e5]; exact h2)).trans ?_) | (refine (vF_g rfl rfl).trans ?_; refine (vne (by rw [e5]; exact hl) (by decide) (by rw [e5]; exact h2)).trans ?_))
    (first | (exact rfl) | (refine (vF_g rfl rfl).trans ?_; refine (vF_g rfl rfl).trans ?_; exact rfl) | (refine (vF_g rfl rfl).trans ?_; refine (vF_g rfl rfl).trans ?_; refine (vF_g rfl rfl).trans ?_; exact rfl) | (refine (vF_g rfl rfl).trans ?_; exact rfl))
end
