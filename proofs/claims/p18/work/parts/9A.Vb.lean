/-! the reference's numbers -/
noncomputable def nfold (T : Nat → Nat) (s : Nat) : Nat → Nat → Nat → Nat
  | 0, _, v => v
  | m + 1, q, v => if kd9 (T q) = 2 then nfold T s m (q + 1) (if q - s < 4 then vstep v (T q) else v) else v
theorem nu_loop {D n s lo hi : Nat} {T : Nat → Nat} : ∀ (m q v c F : Nat) (g : Vw), c + 5 * m + 2 ≤ F → TxR g n T → g 452 17 = q → g 452 18 = s → s ≤ q → q ≤ n → n - q ≤ m → ∃ c', c ≤ c' ∧ vFn (vM MT0 (D + 1)) nb_X11_number F 3 0 [vR 452, vI lo, vI hi, vI v] [] g = vFn (vM MT0 (D + 1)) nb_X11_number c' 8 0 [vR 452, vI lo, vI hi, vI (nfold T s m q v)] [] (vup g 452 17 (rn T 2 m q)) := by
  have out : ∀ (q v F : Nat) (g : Vw), TxR g n T → g 452 17 = q → q ≤ n → kd9 (T q) ≠ 2 → vFn (vM MT0 (D + 1)) nb_X11_number (F + 1) 3 0 [vR 452, vI lo, vI hi, vI v] [] g = vFn (vM MT0 (D + 1)) nb_X11_number F 8 0 [vR 452, vI lo, vI hi, vI v] [] g := by
    intro q v F g hx h1 h4 h5
    have hn := hx.1
    (first | (refine (vbnd_0 (v_byteR (i := g 452 17) (f := g) (by rw [h1]; omega) (by rw [hx.2.1]; exact hx.1))).trans ?_) | (refine (vF_g rfl rfl).trans ?_; refine (vF_g rfl rfl).trans ?_; refine (vbnd_0 (v_byteR (i := g 452 17) (f := g) (by rw [h1]; omega) (by rw [hx.2.1]; exact hx.1))).trans ?_) | (refine (vF_g rfl rfl).trans ?_; refine (vbnd_0 (v_byteR (i := g 452 17) (f := g) (by rw [h1]; omega) (by rw [hx.2.1]; exact hx.1))).trans ?_))
    (first | (refine (vbnd_0 (v_in (x := toNL (nI (btR g (g 452 17))).toInt64) (a := 48) (b := 57) (f := g))).trans ?_) | (refine (vF_g rfl rfl).trans ?_; refine (vF_g rfl rfl).trans ?_; refine (vbnd_0 (v_in (x := toNL (nI (btR g (g 452 17))).toInt64) (a := 48) (b := 57) (f := g))).trans ?_) | (refine (vF_g rfl rfl).trans ?_; refine (vbnd_0 (v_in (x := toNL (nI (btR g (g 452 17))).toInt64) (a := 48) (b := 57) (f := g))).trans ?_))
    rw [h1, hx.2.2.1, if_neg (fun w => h5 (kd9_2.mpr ((in_9 (hx.2.2.2.1 q) (by decide) (by decide)).mp w)))]
    (first | (exact veq (x := 0) (y := 0) rfl) | (refine (vF_g rfl rfl).trans ?_; refine (vF_g rfl rfl).trans ?_; exact veq (x := 0) (y := 0) rfl) | (refine (vF_g rfl rfl).trans ?_; exact veq (x := 0) (y := 0) rfl))
  intro m
  induction m with
  | zero =>
    intro q v c F g hF hx h1 h2 h3 h4 h5
    obtain ⟨F1, rfl⟩ : ∃ F1, F = F1 + 1 := ⟨F - 1, by omega⟩
    refine ⟨F1, by omega, ?_⟩
    rw [show rn T 2 0 q = q from rfl, vup_id h1]
    exact out q v F1 g hx h1 h4 (by rw [hx.2.2.2.2 q (by omega)]; decide)
  | succ m ih =>
    intro q v c F g hF hx h1 h2 h3 h4 h5
    by_cases w : kd9 (T q) = 2
    · have hq : q < n := Nat.lt_of_not_le fun x => by
        rw [hx.2.2.2.2 q x] at w
        exact absurd w (by decide)
      have hn := hx.1
      obtain ⟨F1, rfl⟩ : ∃ F1, F = F1 + 4 := ⟨F - 4, by omega⟩
      obtain ⟨c', k1, k2⟩ := ih (q + 1) (if q - s < 4 then vstep v (T q) else v) c F1 (vup g 452 17 (q + 1)) (by omega) (txR_up (by decide) hx) vup_eq (by rw [vup_ne (Or.inr (by decide))]; exact h2) (by omega) (by omega) (by omega)
      refine ⟨c', k1, ?_⟩
      (first | (refine (vbnd_0 (v_byteR (i := g 452 17) (f := g) (by rw [h1]; omega) (by rw [hx.2.1]; exact hx.1))).trans ?_) | (refine (vF_g rfl rfl).trans ?_; refine (vF_g rfl rfl).trans ?_; refine (vbnd_0 (v_byteR (i := g 452 17) (f := g) (by rw [h1]; omega) (by rw [hx.2.1]; exact hx.1))).trans ?_) | (refine (vF_g rfl rfl).trans ?_; refine (vbnd_0 (v_byteR (i := g 452 17) (f := g) (by rw [h1]; omega) (by rw [hx.2.1]; exact hx.1))).trans ?_))
      (first | (refine (vbnd_0 (v_in (x := toNL (nI (btR g (g 452 17))).toInt64) (a := 48) (b := 57) (f := g))).trans ?_) | (refine (vF_g rfl rfl).trans ?_; refine (vF_g rfl rfl).trans ?_; refine (vbnd_0 (v_in (x := toNL (nI (btR g (g 452 17))).toInt64) (a := 48) (b := 57) (f := g))).trans ?_) | (refine (vF_g rfl rfl).trans ?_; refine (vbnd_0 (v_in (x := toNL (nI (btR g (g 452 17))).toInt64) (a := 48) (b := 57) (f := g))).trans ?_))
      rw [h1, hx.2.2.1, if_pos ((in_9 (hx.2.2.2.1 q) (by decide) (by decide)).mpr (kd9_2.mp w))]
      (first | (refine (vgt (x := 1) (y := 0) (by decide) (by decide)).trans ?_) | (refine (vF_g rfl rfl).trans ?_; refine (vF_g rfl rfl).trans ?_; refine (vgt (x := 1) (y := 0) (by decide) (by decide)).trans ?_) | (refine (vF_g rfl rfl).trans ?_; refine (vgt (x := 1) (y := 0) (by decide) (by decide)).trans ?_))
      have hd : g_sub (g 452 17) (g 452 18) = q - s := by rw [h1, h2]; unfold g_sub; omega
      rw [show nfold T s (m + 1) q v = nfold T s m (q + 1) (if q - s < 4 then vstep v (T q) else v) from if_pos w, show rn T 2 (m + 1) q = rn T 2 m (q + 1) from if_pos w]
      have e7 : ∀ v', vFn (vM MT0 (D + 1)) nb_X11_number (F1 + 1) 7 0 [vR 452, vI lo, vI hi, vI v] [vI v'] g = vFn (vM MT0 (D + 1)) nb_X11_number F1 3 0 [vR 452, vI lo, vI hi, vI v'] [] (vup g 452 17 (q + 1)) := by
        intro v'
        (first | (refine Eq.trans (b := vFn (vM MT0 (D + 1)) nb_X11_number F1 3 0 [vR 452, vI lo, vI hi, vI v'] [] (vup g 452 17 ((g 452 17 + 1) % 4294967296))) rfl ?_) | (refine (vF_g rfl rfl).trans ?_; refine (vF_g rfl rfl).trans ?_; refine Eq.trans (b := vFn (vM MT0 (D + 1)) nb_X11_number F1 3 0 [vR 452, vI lo, vI hi, vI v'] [] (vup g 452 17 ((g 452 17 + 1) % 4294967296))) rfl ?_) | (refine (vF_g rfl rfl).trans ?_; refine Eq.trans (b := vFn (vM MT0 (D + 1)) nb_X11_number F1 3 0 [vR 452, vI lo, vI hi, vI v'] [] (vup g 452 17 ((g 452 17 + 1) % 4294967296))) rfl ?_))
        rw [h1, Nat.mod_eq_of_lt (show q + 1 < 4294967296 by omega)]
      by_cases z : q - s < 4
      · rw [if_pos z] at k2 ⊢
        (first | (refine (vlt (x := gB9 0 (g 452 17) (g 452 18)) (y := 4) (by decide) (by rw [gB_0, hd]; exact z)).trans ?_) | (refine (vF_g rfl rfl).trans ?_; refine (vF_g rfl rfl).trans ?_; refine (vlt (x := gB9 0 (g 452 17) (g 452 18)) (y := 4) (by decide) (by rw [gB_0, hd]; exact z)).trans ?_) | (refine (vF_g rfl rfl).trans ?_; refine (vlt (x := gB9 0 (g 452 17) (g 452 18)) (y := 4) (by decide) (by rw [gB_0, hd]; exact z)).trans ?_))
        (first | (refine (vbnd_0 (v_byteR (i := g 452 17) (f := g) (by rw [h1]; omega) (by rw [hx.2.1]; exact hx.1))).trans ?_) | (refine (vF_g rfl rfl).trans ?_; refine (vF_g rfl rfl).trans ?_; refine (vbnd_0 (v_byteR (i := g 452 17) (f := g) (by rw [h1]; omega) (by rw [hx.2.1]; exact hx.1))).trans ?_) | (refine (vF_g rfl rfl).trans ?_; refine (vbnd_0 (v_byteR (i := g 452 17) (f := g) (by rw [h1]; omega) (by rw [hx.2.1]; exact hx.1))).trans ?_))
        (first | (refine Eq.trans (b := vFn (vM MT0 (D + 1)) nb_X11_number (F1 + 1) 7 0 [vR 452, vI lo, vI hi, vI v] [vI (gB9 0 ((gB9 1 10 v + btR g (g 452 17)) % 4294967296) 48)] g) rfl ?_) | (refine (vF_g rfl rfl).trans ?_; refine (vF_g rfl rfl).trans ?_; refine Eq.trans (b := vFn (vM MT0 (D + 1)) nb_X11_number (F1 + 1) 7 0 [vR 452, vI lo, vI hi, vI v] [vI (gB9 0 ((gB9 1 10 v + btR g (g 452 17)) % 4294967296) 48)] g) rfl ?_) | (refine (vF_g rfl rfl).trans ?_; refine Eq.trans (b := vFn (vM MT0 (D + 1)) nb_X11_number (F1 + 1) 7 0 [vR 452, vI lo, vI hi, vI v] [vI (gB9 0 ((gB9 1 10 v + btR g (g 452 17)) % 4294967296) 48)] g) rfl ?_))
        rw [gB_0, gB_1, e7, h1, hx.2.2.1, g_imul_c 10 v]
        refine Eq.trans k2 ?_
        rw [vup_vup]
      · rw [if_neg z] at k2 ⊢
        (first | (refine (vge2 (x := gB9 0 (g 452 17) (g 452 18)) (y := 4) (by rw [gB_0, hd]; omega) (by rw [gB_0, hd]; omega)).trans ?_) | (refine (vF_g rfl rfl).trans ?_; refine (vF_g rfl rfl).trans ?_; refine (vge2 (x := gB9 0 (g 452 17) (g 452 18)) (y := 4) (by rw [gB_0, hd]; omega) (by rw [gB_0, hd]; omega)).trans ?_) | (refine (vF_g rfl rfl).trans ?_; refine (vge2 (x := gB9 0 (g 452 17) (g 452 18)) (y := 4) (by rw [gB_0, hd]; omega) (by rw [gB_0, hd]; omega)).trans ?_))
        (first | (refine Eq.trans (b := vFn (vM MT0 (D + 1)) nb_X11_number (F1 + 1) 7 0 [vR 452, vI lo, vI hi, vI v] [vI v] g) rfl ?_) | (refine (vF_g rfl rfl).trans ?_; refine (vF_g rfl rfl).trans ?_; refine Eq.trans (b := vFn (vM MT0 (D + 1)) nb_X11_number (F1 + 1) 7 0 [vR 452, vI lo, vI hi, vI v] [vI v] g) rfl ?_) | (refine (vF_g rfl rfl).trans ?_; refine Eq.trans (b := vFn (vM MT0 (D + 1)) nb_X11_number (F1 + 1) 7 0 [vR 452, vI lo, vI hi, vI v] [vI v] g) rfl ?_))
        rw [e7]
        refine Eq.trans k2 ?_
        rw [vup_vup]
    · obtain ⟨F1, rfl⟩ : ∃ F1, F = F1 + 1 := ⟨F - 1, by omega⟩
      refine ⟨F1, by omega, ?_⟩
      rw [show nfold T s (m + 1) q v = v from if_neg w, show rn T 2 (m + 1) q = q from if_neg w, vup_id h1]
      exact out q v F1 g hx h1 h4 w
/-- of at most four digits both read the same -/
theorem nfold_is {T : Nat → Nat} {s : Nat} : ∀ (m q v : Nat), s ≤ q → rn T 2 m q - s ≤ 4 → nfold T s m q v = vfold T 2 m q v := by
  intro m
  induction m with
  | zero => intro q v h1 h2; rfl
  | succ m ih =>
    intro q v h1 h2
    by_cases w : kd9 (T q) = 2
    · rw [show rn T 2 (m + 1) q = rn T 2 m (q + 1) from if_pos w] at h2
      have h3 : q + 1 ≤ rn T 2 m (q + 1) := by
        have : ∀ m q, q ≤ rn T 2 m q := by
          intro m
          induction m with
          | zero => intro q; exact Nat.le_refl _
          | succ m ih2 =>
            intro q
            by_cases w : kd9 (T q) = 2
            · rw [show rn T 2 (m + 1) q = rn T 2 m (q + 1) from if_pos w]
              have := ih2 (q + 1)
              omega
            · rw [show rn T 2 (m + 1) q = q from if_neg w]
              exact Nat.le_refl _
        exact this m (q + 1)
      rw [show nfold T s (m + 1) q v = nfold T s m (q + 1) (if q - s < 4 then vstep v (T q) else v) from if_pos w, show vfold T 2 (m + 1) q v = vfold T 2 m (q + 1) (vstep v (T q)) from if_pos w, if_pos (show q - s < 4 by omega)]
      exact ih (q + 1) _ (by omega) h2
    · rw [show nfold T s (m + 1) q v = v from if_neg w, show vfold T 2 (m + 1) q v = v from if_neg w]
theorem rn_ge {T : Nat → Nat} {k : Nat} : ∀ (m q : Nat), q ≤ rn T k m q := by
  intro m
  induction m with
  | zero => intro q; exact Nat.le_refl _
  | succ m ih =>
    intro q
    by_cases w : kd9 (T q) = k
    · rw [show rn T k (m + 1) q = rn T k m (q + 1) from if_pos w]
      have := ih (q + 1)
      omega
    · rw [show rn T k (m + 1) q = q from if_neg w]
      exact Nat.le_refl _
/-- a number of so many digits is small -/
theorem vfold_lt {T : Nat → Nat} : ∀ (m q v b : Nat), v < b → b * 10 ^ (rn T 2 m q - q) ≤ 100000000 → vfold T 2 m q v < b * 10 ^ (rn T 2 m q - q) := by
  intro m
  induction m with
  | zero =>
    intro q v b h1 h2
    rw [show rn T 2 0 q - q = 0 from Nat.sub_self q, Nat.pow_zero, Nat.mul_one]
    exact h1
  | succ m ih =>
    intro q v b h1 h2
    by_cases w : kd9 (T q) = 2
    · have hr := rn_ge (T := T) (k := 2) m (q + 1)
      have e : rn T 2 (m + 1) q - q = rn T 2 m (q + 1) - (q + 1) + 1 := by
        rw [show rn T 2 (m + 1) q = rn T 2 m (q + 1) from if_pos w]
        omega
      have e2 : b * 10 ^ (rn T 2 m (q + 1) - (q + 1) + 1) = b * 10 * 10 ^ (rn T 2 m (q + 1) - (q + 1)) := by
        rw [Nat.pow_succ, Nat.mul_assoc, Nat.mul_comm 10]
      rw [e, e2] at h2 ⊢
      have hd := kd9_2.mp w
      have hb : b * 10 ≤ 100000000 := Nat.le_trans (Nat.le_mul_of_pos_right _ (Nat.pow_pos (by decide))) h2
      rw [show vfold T 2 (m + 1) q v = vfold T 2 m (q + 1) (vstep v (T q)) from if_pos w]
      refine ih (q + 1) _ (b * 10) ?_ h2
      rw [vstep_s (by omega) hd.1 hd.2]
      omega
    · have e : rn T 2 (m + 1) q - q = 0 := by
        rw [show rn T 2 (m + 1) q = q from if_neg w, Nat.sub_self]
      rw [e, Nat.pow_zero, Nat.mul_one, show vfold T 2 (m + 1) q v = v from if_neg w]
      exact h1
theorem vfold_4 {T : Nat → Nat} {m q : Nat} (h : rn T 2 m q - q ≤ 4) : vfold T 2 m q 0 < 10000 := by
  have h2 : 10 ^ (rn T 2 m q - q) ≤ 10 ^ 4 := Nat.pow_le_pow_right (by decide) h
  have h3 := vfold_lt (T := T) m q 0 1 (by decide) (by rw [Nat.one_mul]; exact Nat.le_trans h2 (by decide))
  rw [Nat.one_mul] at h3
  exact Nat.lt_of_lt_of_le h3 h2
theorem in_v {t lo hi : Nat} (ht : t < 10000) (hlo : lo < 10000) (hhi : hi < 10000) : (lsg (toNL (nI lo).toInt64) ≤ lsg (toNL (nI t).toInt64) ∧ lsg (toNL (nI t).toInt64) ≤ lsg (toNL (nI hi).toInt64)) ↔ (lo ≤ t ∧ t ≤ hi) := by
  rw [lsg_i2l, lsg_i2l, lsg_i2l, sg_eq (show t ≤ 2147483647 by omega), sg_eq (show lo ≤ 2147483647 by omega), sg_eq (show hi ≤ 2147483647 by omega)]
  omega
theorem flR_o {c k i : Nat} {f : Vw} (h : k ≠ 452 ∨ (i ≠ 20 ∧ i ≠ 21)) : flR c f k i = f k i := by
  unfold flR
  rcases h with h | ⟨h1, h2⟩
  · rw [vup_ne (Or.inl h), vup_ne (Or.inl h)]
  · rw [vup_ne (Or.inr h2), vup_ne (Or.inr h1)]
theorem flR_20 {c : Nat} {f : Vw} : flR c f 452 20 = c := by
  unfold flR
  rw [vup_ne (Or.inr (by decide)), vup_eq]
theorem txR_flR {c n : Nat} {f : Vw} {T : Nat → Nat} (h : TxR f n T) : TxR (flR c f) n T := txR_up (by decide) (txR_up (by decide) h)
/-- a number's end, its value -/
def nE (T : Nat → Nat) (p : Nat) : Nat := rn T 2 901 (tS T p)
noncomputable def nV (T : Nat → Nat) (p : Nat) : Nat := vfold T 2 901 (tS T p) 0
/-- what number leaves, and answers -/
noncomputable def nuR (f : Vw) (T : Nat → Nat) (p lo hi : Nat) : Nat × Vw := if kd9 (T (tS T p)) = 2 then (if nE T p - tS T p ≤ 4 then (if lo ≤ nV T p ∧ nV T p ≤ hi then (nV T p, vup (rkv f T p) 452 17 (nE T p)) else (lo, flR 2 (vup (rkv f T p) 452 17 (nE T p)))) else (lo, flR 1 (vup (rkv f T p) 452 17 (nE T p)))) else (lo, flR 1 (rkv f T p))
theorem must_1 {D c : Nat} {f : Vw} (he : f 452 20 < 4294967296) : vM MT0 (D + 1) 230 [vR 452, vI 1, vI c] f = some ((1, 0), vW 3, f) := (v_must (Or.inr rfl) he).trans (by rw [if_neg (show ¬ ((1 : Nat) = 0 ∧ f 452 20 = 0) from fun w => absurd w.1 (by decide))])
theorem must_0 {D c : Nat} {f : Vw} (h : f 452 20 = 0) : vM MT0 (D + 1) 230 [vR 452, vI 0, vI c] f = some ((1, 0), vW 3, flR c f) := (v_must (Or.inl rfl) (by rw [h]; decide)).trans (by rw [if_pos (show (0 : Nat) = 0 ∧ f 452 20 = 0 from ⟨rfl, h⟩)])
theorem must_x {D is c : Nat} {f : Vw} (his : is = 0 ∨ is = 1) (h : f 452 20 ≠ 0) (he : f 452 20 < 4294967296) : vM MT0 (D + 1) 230 [vR 452, vI is, vI c] f = some ((1, 0), vW 3, f) := (v_must his he).trans (by rw [if_neg (show ¬ (is = 0 ∧ f 452 20 = 0) from fun w => h w.2)])
theorem v_in1 {D x a b : Nat} {f : Vw} (h : lsg a ≤ lsg x ∧ lsg x ≤ lsg b) : vM MT0 (D + 1) 174 [vJ x, vJ a, vJ b] f = some ((0, 0), vI 1, f) := v_in.trans (by rw [if_pos h])
theorem v_in0 {D x a b : Nat} {f : Vw} (h : ¬ (lsg a ≤ lsg x ∧ lsg x ≤ lsg b)) : vM MT0 (D + 1) 174 [vJ x, vJ a, vJ b] f = some ((0, 0), vI 0, f) := v_in.trans (by rw [if_neg h])
theorem nu_end {D F is b1 lo hi v : Nat} {g g1 g2 : Vw} (m : vM MT0 D 230 [vR 452, vI is, vI 1] g = some ((1, 0), vW 3, g1)) (i : vM MT0 D 174 [vJ (toNL (nI v).toInt64), vJ (toNL (nI lo).toInt64), vJ (toNL (nI hi).toInt64)] g1 = some ((0, 0), vI b1, g1)) (m2 : vM MT0 D 230 [vR 452, vI b1, vI 2] g1 = some ((1, 0), vW 3, g2)) : (g2 452 20 = 0 → vFn (vM MT0 D) nb_X11_number (F + 4) 11 0 [vR 452, vI lo, vI hi, vI v] [vI is, vR 452] g = some ((0, 0), vI v, g2)) ∧ (g2 452 20 ≠ 0 → g2 452 20 < 4294967296 → vFn (vM MT0 D) nb_X11_number (F + 4) 11 0 [vR 452, vI lo, vI hi, vI v] [vI is, vR 452] g = some ((0, 0), vI lo, g2)) := by
  refine ⟨fun h => ?_, fun h h9 => ?_⟩
  · (first | (refine (vbnd_1 m).trans ?_) | (refine (vF_g rfl rfl).trans ?_; refine (vF_g rfl rfl).trans ?_; refine (vbnd_1 m).trans ?_) | (refine (vF_g rfl rfl).trans ?_; refine (vbnd_1 m).trans ?_))
    (first | (refine (vbnd_0 i).trans ?_) | (refine (vF_g rfl rfl).trans ?_; refine (vF_g rfl rfl).trans ?_; refine (vbnd_0 i).trans ?_) | (refine (vF_g rfl rfl).trans ?_; refine (vbnd_0 i).trans ?_))
    (first | (refine (vbnd_1 m2).trans ?_) | (refine (vF_g rfl rfl).trans ?_; refine (vF_g rfl rfl).trans ?_; refine (vbnd_1 m2).trans ?_) | (refine (vF_g rfl rfl).trans ?_; refine (vbnd_1 m2).trans ?_))
    (first | (refine (veq h).trans ?_) | (refine (vF_g rfl rfl).trans ?_; refine (vF_g rfl rfl).trans ?_; refine (veq h).trans ?_) | (refine (vF_g rfl rfl).trans ?_; refine (veq h).trans ?_))
    (first | (exact rfl) | (refine (vF_g rfl rfl).trans ?_; refine (vF_g rfl rfl).trans ?_; exact rfl) | (refine (vF_g rfl rfl).trans ?_; refine (vF_g rfl rfl).trans ?_; refine (vF_g rfl rfl).trans ?_; exact rfl) | (refine (vF_g rfl rfl).trans ?_; exact rfl))
  · (first | (refine (vbnd_1 m).trans ?_) | (refine (vF_g rfl rfl).trans ?_; refine (vF_g rfl rfl).trans ?_; refine (vbnd_1 m).trans ?_) | (refine (vF_g rfl rfl).trans ?_; refine (vbnd_1 m).trans ?_))
    (first | (refine (vbnd_0 i).trans ?_) | (refine (vF_g rfl rfl).trans ?_; refine (vF_g rfl rfl).trans ?_; refine (vbnd_0 i).trans ?_) | (refine (vF_g rfl rfl).trans ?_; refine (vbnd_0 i).trans ?_))
    (first | (refine (vbnd_1 m2).trans ?_) | (refine (vF_g rfl rfl).trans ?_; refine (vF_g rfl rfl).trans ?_; refine (vbnd_1 m2).trans ?_) | (refine (vF_g rfl rfl).trans ?_; refine (vbnd_1 m2).trans ?_))
    (first | (refine (vne (x := g2 452 20) (y := 0) h9 (by decide) h).trans ?_) | (refine (vF_g rfl rfl).trans ?_; refine (vF_g rfl rfl).trans ?_; refine (vne (x := g2 452 20) (y := 0) h9 (by decide) h).trans ?_) | (refine (vF_g rfl rfl).trans ?_; refine (vne (x := g2 452 20) (y := 0) h9 (by decide) h).trans ?_))
    (first | (exact rfl) | (refine (vF_g rfl rfl).trans ?_; refine (vF_g rfl rfl).trans ?_; exact rfl) | (refine (vF_g rfl rfl).trans ?_; refine (vF_g rfl rfl).trans ?_; refine (vF_g rfl rfl).trans ?_; exact rfl) | (refine (vF_g rfl rfl).trans ?_; exact rfl))
/-- number, behind its digits -/
theorem nu_8 {D F s lo hi v e : Nat} {g : Vw} (hlo : lo < 10000) (hhi : hi < 10000) (h1 : g 452 17 = e) (h2 : g 452 18 = s) (h3 : s ≤ e) (h4 : e ≤ 900) (h5 : g 452 20 < 4294967296) (h6 : g 452 20 = 0 → e - s ≤ 4 → v < 10000) : vFn (vM MT0 (D + 2)) nb_X11_number (F + 6) 8 0 [vR 452, vI lo, vI hi, vI v] [] g = some ((0, 0), vI (if g 452 20 = 0 then (if e - s ≤ 4 then (if lo ≤ v ∧ v ≤ hi then v else lo) else lo) else lo), if g 452 20 = 0 then (if e - s ≤ 4 then (if lo ≤ v ∧ v ≤ hi then g else flR 2 g) else flR 1 g) else g) := by
  have hd : gB9 0 (g 452 17) (g 452 18) = e - s := by rw [gB_0, h1, h2]; unfold g_sub; omega
  have to11 : ∀ r, (e - s ≤ 4 → vFn (vM MT0 (D + 2)) nb_X11_number (F + 4) 11 0 [vR 452, vI lo, vI hi, vI v] [vI 1, vR 452] g = r) → (¬ e - s ≤ 4 → vFn (vM MT0 (D + 2)) nb_X11_number (F + 4) 11 0 [vR 452, vI lo, vI hi, vI v] [vI 0, vR 452] g = r) → vFn (vM MT0 (D + 2)) nb_X11_number (F + 6) 8 0 [vR 452, vI lo, vI hi, vI v] [] g = r := by
    intro r r1 r2
    by_cases q : e - s ≤ 4
    · (first | (refine (vle2 (x := gB9 0 (g 452 17) (g 452 18)) (y := 4) (by decide) (by rw [hd]; exact q)).trans ?_) | (refine (vF_g rfl rfl).trans ?_; refine (vF_g rfl rfl).trans ?_; refine (vle2 (x := gB9 0 (g 452 17) (g 452 18)) (y := 4) (by decide) (by rw [hd]; exact q)).trans ?_) | (refine (vF_g rfl rfl).trans ?_; refine (vle2 (x := gB9 0 (g 452 17) (g 452 18)) (y := 4) (by decide) (by rw [hd]; exact q)).trans ?_))
      (first | (refine Eq.trans (b := vFn (vM MT0 (D + 2)) nb_X11_number (F + 4) 11 0 [vR 452, vI lo, vI hi, vI v] [vI 1, vR 452] g) rfl ?_) | (refine (vF_g rfl rfl).trans ?_; refine (vF_g rfl rfl).trans ?_; refine Eq.trans (b := vFn (vM MT0 (D + 2)) nb_X11_number (F + 4) 11 0 [vR 452, vI lo, vI hi, vI v] [vI 1, vR 452] g) rfl ?_) | (refine (vF_g rfl rfl).trans ?_; refine Eq.trans (b := vFn (vM MT0 (D + 2)) nb_X11_number (F + 4) 11 0 [vR 452, vI lo, vI hi, vI v] [vI 1, vR 452] g) rfl ?_))
      exact r1 q
    · (first | (refine (vgt (x := gB9 0 (g 452 17) (g 452 18)) (y := 4) (by rw [hd]; omega) (by rw [hd]; omega)).trans ?_) | (refine (vF_g rfl rfl).trans ?_; refine (vF_g rfl rfl).trans ?_; refine (vgt (x := gB9 0 (g 452 17) (g 452 18)) (y := 4) (by rw [hd]; omega) (by rw [hd]; omega)).trans ?_) | (refine (vF_g rfl rfl).trans ?_; refine (vgt (x := gB9 0 (g 452 17) (g 452 18)) (y := 4) (by rw [hd]; omega) (by rw [hd]; omega)).trans ?_))
      (first | (refine Eq.trans (b := vFn (vM MT0 (D + 2)) nb_X11_number (F + 4) 11 0 [vR 452, vI lo, vI hi, vI v] [vI 0, vR 452] g) rfl ?_) | (refine (vF_g rfl rfl).trans ?_; refine (vF_g rfl rfl).trans ?_; refine Eq.trans (b := vFn (vM MT0 (D + 2)) nb_X11_number (F + 4) 11 0 [vR 452, vI lo, vI hi, vI v] [vI 0, vR 452] g) rfl ?_) | (refine (vF_g rfl rfl).trans ?_; refine Eq.trans (b := vFn (vM MT0 (D + 2)) nb_X11_number (F + 4) 11 0 [vR 452, vI lo, vI hi, vI v] [vI 0, vR 452] g) rfl ?_))
      exact r2 q
  by_cases q0 : g 452 20 = 0
  · rw [if_pos q0, if_pos q0]
    refine to11 _ (fun q => ?_) (fun q => ?_)
    · rw [if_pos q, if_pos q]
      have hv := h6 q0 q
      by_cases w : lo ≤ v ∧ v ≤ hi
      · rw [if_pos w, if_pos w]
        exact (nu_end (must_1 h5) (v_in1 ((in_v hv hlo hhi).mpr w)) (must_1 h5)).1 q0
      · rw [if_neg w, if_neg w]
        exact (nu_end (must_1 h5) (v_in0 (fun x => w ((in_v hv hlo hhi).mp x))) (must_0 q0)).2 (by rw [flR_20]; decide) (by rw [flR_20]; decide)
    · rw [if_neg q, if_neg q]
      have e1 : flR 1 g 452 20 = 1 := flR_20
      by_cases w : lsg (toNL (nI lo).toInt64) ≤ lsg (toNL (nI v).toInt64) ∧ lsg (toNL (nI v).toInt64) ≤ lsg (toNL (nI hi).toInt64)
      · exact (nu_end (must_0 q0) (v_in1 w) (must_1 (by rw [e1]; decide))).2 (by rw [e1]; decide) (by rw [e1]; decide)
      · exact (nu_end (must_0 q0) (v_in0 w) (must_x (Or.inl rfl) (by rw [e1]; decide) (by rw [e1]; decide))).2 (by rw [e1]; decide) (by rw [e1]; decide)
  · rw [if_neg q0, if_neg q0]
    have key : ∀ is, is = 0 ∨ is = 1 → vFn (vM MT0 (D + 2)) nb_X11_number (F + 4) 11 0 [vR 452, vI lo, vI hi, vI v] [vI is, vR 452] g = some ((0, 0), vI lo, g) := by
      intro is his
      by_cases w : lsg (toNL (nI lo).toInt64) ≤ lsg (toNL (nI v).toInt64) ∧ lsg (toNL (nI v).toInt64) ≤ lsg (toNL (nI hi).toInt64)
      · exact (nu_end (must_x his q0 h5) (v_in1 w) (must_1 h5)).2 q0 h5
      · exact (nu_end (must_x his q0 h5) (v_in0 w) (must_x (Or.inl rfl) q0 h5)).2 q0 h5
    exact to11 _ (fun _ => key 1 (Or.inr rfl)) (fun _ => key 0 (Or.inl rfl))
theorem v_number {D n p lo hi : Nat} {T : Nat → Nat} {f : Vw} (hx : TxR f n T) (hp9 : f 452 17 = p) (hp : p ≤ n) (he : f 452 20 = 0) (hlo : lo < 10000) (hhi : hi < 10000) : vM MT0 (D + 3) 235 [vR 452, vI lo, vI hi] f = some ((0, 0), vI (nuR f T p lo hi).1, (nuR f T p lo hi).2) := by
  have hn := hx.1
  obtain ⟨hs1, hs2⟩ := sk_le hx.2.2.2.2 901 p hp
  have hS : sk T 901 p = tS T p := rfl
  rw [hS] at hs1 hs2
  have e20 : rkv f T p 452 20 = 0 := by rw [rkv_o (Or.inr (by decide))]; exact he
  obtain ⟨hr1, hr2⟩ := rn_le (k := 2) (by decide) hx.2.2.2.2 901 (tS T p) hs2
  refine vM_go rfl rfl rfl rfl fun F9 hF9 => ?_
  by_cases d : kd9 (T (tS T p)) = 2
  · (first | (refine (veq he).trans ?_) | (refine (vF_g rfl rfl).trans ?_; refine (vF_g rfl rfl).trans ?_; refine (veq he).trans ?_) | (refine (vF_g rfl rfl).trans ?_; refine (veq he).trans ?_))
    (first | (refine (vbnd_0 (v_nextR hx hp9 hp)).trans ?_) | (refine (vF_g rfl rfl).trans ?_; refine (vF_g rfl rfl).trans ?_; refine (vbnd_0 (v_nextR hx hp9 hp)).trans ?_) | (refine (vF_g rfl rfl).trans ?_; refine (vbnd_0 (v_nextR hx hp9 hp)).trans ?_))
    (first | (refine (vbnd_0 (v_in1 (x := toNL (nI (T (tS T p))).toInt64) (a := 48) (b := 57) (f := rkv f T p) ((in_9 (hx.2.2.2.1 _) (by decide) (by decide)).mpr (kd9_2.mp d)))).trans ?_) | (refine (vF_g rfl rfl).trans ?_; refine (vF_g rfl rfl).trans ?_; refine (vbnd_0 (v_in1 (x := toNL (nI (T (tS T p))).toInt64) (a := 48) (b := 57) (f := rkv f T p) ((in_9 (hx.2.2.2.1 _) (by decide) (by decide)).mpr (kd9_2.mp d)))).trans ?_) | (refine (vF_g rfl rfl).trans ?_; refine (vbnd_0 (v_in1 (x := toNL (nI (T (tS T p))).toInt64) (a := 48) (b := 57) (f := rkv f T p) ((in_9 (hx.2.2.2.1 _) (by decide) (by decide)).mpr (kd9_2.mp d)))).trans ?_))
    (first | (refine (vbnd_1 (must_1 (f := rkv f T p) (by rw [e20]; decide))).trans ?_) | (refine (vF_g rfl rfl).trans ?_; refine (vF_g rfl rfl).trans ?_; refine (vbnd_1 (must_1 (f := rkv f T p) (by rw [e20]; decide))).trans ?_) | (refine (vF_g rfl rfl).trans ?_; refine (vbnd_1 (must_1 (f := rkv f T p) (by rw [e20]; decide))).trans ?_))
    obtain ⟨c, c1, c2⟩ := nu_loop (D := D + 1) (s := tS T p) (lo := lo) (hi := hi) 901 (tS T p) 0 6 (F9 + 58) (rkv f T p) (by omega) (txR_rkv hx) rkv_17 rkv_18 (Nat.le_refl _) hs2 (by omega)
    (first | (refine Eq.trans (b := vFn (vM MT0 (D + 2)) nb_X11_number (F9 + 58) 3 0 [vR 452, vI lo, vI hi, vI 0] [] (rkv f T p)) rfl ?_) | (refine (vF_g rfl rfl).trans ?_; refine (vF_g rfl rfl).trans ?_; refine Eq.trans (b := vFn (vM MT0 (D + 2)) nb_X11_number (F9 + 58) 3 0 [vR 452, vI lo, vI hi, vI 0] [] (rkv f T p)) rfl ?_) | (refine (vF_g rfl rfl).trans ?_; refine Eq.trans (b := vFn (vM MT0 (D + 2)) nb_X11_number (F9 + 58) 3 0 [vR 452, vI lo, vI hi, vI 0] [] (rkv f T p)) rfl ?_))
    refine c2.trans ?_
    obtain ⟨F, rfl⟩ : ∃ F, c = F + 6 := ⟨c - 6, by omega⟩
    have hE : rn T 2 901 (tS T p) = nE T p := rfl
    rw [hE] at hr1 hr2 ⊢
    have e9 : vup (rkv f T p) 452 17 (nE T p) 452 20 = 0 := by rw [vup_ne (Or.inr (by decide))]; exact e20
    have hval : nE T p - tS T p ≤ 4 → nfold T (tS T p) 901 (tS T p) 0 = nV T p := fun q => nfold_is 901 (tS T p) 0 (Nat.le_refl _) q
    refine (nu_8 (F := F) (s := tS T p) (e := nE T p) hlo hhi vup_eq (by rw [vup_ne (Or.inr (by decide))]; exact rkv_18) hr1 (by omega) (by rw [e9]; decide) (fun _ q => by rw [hval q]; exact vfold_4 q)).trans ?_
    unfold nuR
    rw [if_pos e9, if_pos e9, if_pos d]
    by_cases q : nE T p - tS T p ≤ 4
    · rw [if_pos q, if_pos q, if_pos q, hval q]
      by_cases w : lo ≤ nV T p ∧ nV T p ≤ hi
      · rw [if_pos w, if_pos w, if_pos w]
      · rw [if_neg w, if_neg w, if_neg w]
    · rw [if_neg q, if_neg q, if_neg q]
  · (first | (refine (veq he).trans ?_) | (refine (vF_g rfl rfl).trans ?_; refine (vF_g rfl rfl).trans ?_; refine (veq he).trans ?_) | (refine (vF_g rfl rfl).trans ?_; refine (veq he).trans ?_))
    (first | (refine (vbnd_0 (v_nextR hx hp9 hp)).trans ?_) | (refine (vF_g rfl rfl).trans ?_; refine (vF_g rfl rfl).trans ?_; refine (vbnd_0 (v_nextR hx hp9 hp)).trans ?_) | (refine (vF_g rfl rfl).trans ?_; refine (vbnd_0 (v_nextR hx hp9 hp)).trans ?_))
    (first | (refine (vbnd_0 (v_in0 (x := toNL (nI (T (tS T p))).toInt64) (a := 48) (b := 57) (f := rkv f T p) (fun w => d (kd9_2.mpr ((in_9 (hx.2.2.2.1 _) (by decide) (by decide)).mp w))))).trans ?_) | (refine (vF_g rfl rfl).trans ?_; refine (vF_g rfl rfl).trans ?_; refine (vbnd_0 (v_in0 (x := toNL (nI (T (tS T p))).toInt64) (a := 48) (b := 57) (f := rkv f T p) (fun w => d (kd9_2.mpr ((in_9 (hx.2.2.2.1 _) (by decide) (by decide)).mp w))))).trans ?_) | (refine (vF_g rfl rfl).trans ?_; refine (vbnd_0 (v_in0 (x := toNL (nI (T (tS T p))).toInt64) (a := 48) (b := 57) (f := rkv f T p) (fun w => d (kd9_2.mpr ((in_9 (hx.2.2.2.1 _) (by decide) (by decide)).mp w))))).trans ?_))
    (first | (refine (vbnd_1 (must_0 (f := rkv f T p) e20)).trans ?_) | (refine (vF_g rfl rfl).trans ?_; refine (vF_g rfl rfl).trans ?_; refine (vbnd_1 (must_0 (f := rkv f T p) e20)).trans ?_) | (refine (vF_g rfl rfl).trans ?_; refine (vbnd_1 (must_0 (f := rkv f T p) e20)).trans ?_))
    obtain ⟨c, c1, c2⟩ := nu_loop (D := D + 1) (s := tS T p) (lo := lo) (hi := hi) 901 (tS T p) 0 6 (F9 + 58) (flR 1 (rkv f T p)) (by omega) (txR_flR (txR_rkv hx)) (by rw [flR_o (Or.inr (by decide))]; exact rkv_17) (by rw [flR_o (Or.inr (by decide))]; exact rkv_18) (Nat.le_refl _) hs2 (by omega)
    (first | (refine Eq.trans (b := vFn (vM MT0 (D + 2)) nb_X11_number (F9 + 58) 3 0 [vR 452, vI lo, vI hi, vI 0] [] (flR 1 (rkv f T p))) rfl ?_) | (refine (vF_g rfl rfl).trans ?_; refine (vF_g rfl rfl).trans ?_; refine Eq.trans (b := vFn (vM MT0 (D + 2)) nb_X11_number (F9 + 58) 3 0 [vR 452, vI lo, vI hi, vI 0] [] (flR 1 (rkv f T p))) rfl ?_) | (refine (vF_g rfl rfl).trans ?_; refine Eq.trans (b := vFn (vM MT0 (D + 2)) nb_X11_number (F9 + 58) 3 0 [vR 452, vI lo, vI hi, vI 0] [] (flR 1 (rkv f T p))) rfl ?_))
    refine c2.trans ?_
    obtain ⟨F, rfl⟩ : ∃ F, c = F + 6 := ⟨c - 6, by omega⟩
    have er : rn T 2 901 (tS T p) = tS T p := if_neg d
    rw [er, vup_id (by rw [flR_o (Or.inr (by decide))]; exact rkv_17)]
    have e9 : flR 1 (rkv f T p) 452 20 = 1 := flR_20
    refine (nu_8 (F := F) (s := tS T p) (e := tS T p) hlo hhi (by rw [flR_o (Or.inr (by decide))]; exact rkv_17) (by rw [flR_o (Or.inr (by decide))]; exact rkv_18) (Nat.le_refl _) (by omega) (by rw [e9]; decide) (fun q => by rw [e9] at q; cases q)).trans ?_
    unfold nuR
    rw [if_neg (show ¬ flR 1 (rkv f T p) 452 20 = 0 by rw [e9]; decide), if_neg (show ¬ flR 1 (rkv f T p) 452 20 = 0 by rw [e9]; decide), if_neg d]
