/-! the program's next token -/
theorem vup_eq {f : Vw} {k i x : Nat} : vup f k i x k i = x := if_pos ⟨rfl, rfl⟩
theorem vup_ne {f : Vw} {k i x k' i' : Nat} (h : k' ≠ k ∨ i' ≠ i) : vup f k i x k' i' = f k' i' := if_neg (fun q => h.elim (fun w => w q.1) (fun w => w q.2))
theorem vup_id {f : Vw} {k i x : Nat} (h : f k i = x) : vup f k i x = f := by
  funext k' i'
  by_cases q : k' = k ∧ i' = i
  · rw [q.1, q.2, vup_eq, h]
  · exact if_neg q
theorem vup_vup {f : Vw} {k i x y : Nat} : vup (vup f k i x) k i y = vup f k i y := by
  funext k' i'
  by_cases q : k' = k ∧ i' = i
  · rw [q.1, q.2, vup_eq, vup_eq]
  · show (if k' = k ∧ i' = i then y else if k' = k ∧ i' = i then x else f k' i') = if k' = k ∧ i' = i then y else f k' i'
    rw [if_neg q, if_neg q, if_neg q]
theorem vup_sw {f : Vw} {k i x k' i' y : Nat} (h : k ≠ k' ∨ i ≠ i') : vup (vup f k i x) k' i' y = vup (vup f k' i' y) k i x := by
  funext a b
  by_cases q : a = k ∧ b = i
  · rw [q.1, q.2, vup_ne h, vup_eq, vup_eq]
  · by_cases q2 : a = k' ∧ b = i'
    · rw [q2.1, q2.2, vup_eq, vup_ne (h.imp (fun w e => w e.symm) (fun w e => w e.symm)), vup_eq]
    · show (if a = k' ∧ b = i' then y else if a = k ∧ b = i then x else f a b) = if a = k ∧ b = i then x else if a = k' ∧ b = i' then y else f a b
      rw [if_neg q2, if_neg q, if_neg q, if_neg q2]
theorem bt_up {f : Vw} {j x i : Nat} : bt (vup f 446 j x) i = bt f i := by
  unfold bt
  rw [vup_ne (Or.inl (by decide)), vup_ne (Or.inl (by decide))]
theorem bt_in {f : Vw} {i : Nat} (h : i < f 1 1) : bt f i < 256 := by
  unfold bt
  rw [if_pos h]
  have h1 := iand_le (a := f 2 i % 4294967296) (b := 255) (Nat.mod_lt _ (by decide)) (by decide) (by rw [sg_eq (by decide)]; decide)
  have e : g_iand (f 2 i) 255 = g_iand (f 2 i % 4294967296) 255 := by
    unfold g_iand
    rw [nI_mod]
  rw [e]
  have h2 : g_iand (f 2 i % 4294967296) 255 < 4294967296 := toN_lt _
  have h3 := h1.2
  rw [sg_eq (x := 255) (by decide)] at h3
  have h4 := sg_small h2 (n := 255) (by decide) h1.1 h3
  exact Nat.lt_succ_of_le h4
theorem bt_lt (f : Vw) (i : Nat) : bt f i < 256 ∨ bt f i = 4294967295 := by
  by_cases h : i < f 1 1
  · exact Or.inl (bt_in h)
  · exact Or.inr (if_neg h)
theorem bt_l32 (f : Vw) (i : Nat) : bt f i < 4294967296 := by
  rcases bt_lt f i with h | h <;> omega
/-- past the spaces; past the signs of one kind -/
def sk (T : Nat → Nat) : Nat → Nat → Nat
  | 0, p => p
  | m + 1, p => if T p = 32 then sk T m (p + 1) else p
def rn (T : Nat → Nat) (k : Nat) : Nat → Nat → Nat
  | 0, p => p
  | m + 1, p => if kd9 (T p) = k then rn T k m (p + 1) else p
/-- a number's value -/
noncomputable def vstep (v x : Nat) : Nat := g_sub ((g_imul v 10 + x) % 4294967296) 48
noncomputable def vfold (T : Nat → Nat) (k : Nat) : Nat → Nat → Nat → Nat
  | 0, _, v => v
  | m + 1, p, v => if kd9 (T p) = k then vfold T k m (p + 1) (vstep v (T p)) else v
theorem nx_skip {D n : Nat} {T : Nat → Nat} (hn : n ≤ 900) (hT0 : ∀ i, n ≤ i → T i = 4294967295) : ∀ (m p c F : Nat) (g : Vw), c + 3 * m + 2 ≤ F → g 446 1 = p → g 1 1 = n → (∀ i, bt g i = T i) → p ≤ n → n - p ≤ m → ∃ c', c ≤ c' ∧ vFn (vM MT0 (D + 1)) nb_X7_next F 0 0 [vR 446, vW 3] [] g = vFn (vM MT0 (D + 1)) nb_X7_next c' 3 0 [vR 446, vW 3] [] (vup g 446 1 (sk T m p)) := by
  intro m
  induction m with
  | zero =>
    intro p c F g hF h1 h2 h3 h4 h5
    obtain ⟨F1, rfl⟩ : ∃ F1, F = F1 + 1 := ⟨F - 1, by omega⟩
    refine ⟨F1, by omega, ?_⟩
    rw [show sk T 0 p = p from rfl, vup_id h1]
    (first | (exact vge2 (x := g 446 1) (y := g 1 1) (by omega) (by omega)) | (refine (vF_g rfl rfl).trans ?_; refine (vF_g rfl rfl).trans ?_; exact vge2 (x := g 446 1) (y := g 1 1) (by omega) (by omega)) | (refine (vF_g rfl rfl).trans ?_; exact vge2 (x := g 446 1) (y := g 1 1) (by omega) (by omega)))
  | succ m ih =>
    intro p c F g hF h1 h2 h3 h4 h5
    obtain ⟨F1, rfl⟩ : ∃ F1, F = F1 + 3 := ⟨F - 3, by omega⟩
    by_cases q : p < n
    · by_cases q2 : T p = 32
      · obtain ⟨c', k1, k2⟩ := ih (p + 1) c F1 (vup g 446 1 (p + 1)) (by omega) vup_eq (by rw [vup_ne (Or.inl (by decide))]; exact h2) (fun i => by rw [bt_up]; exact h3 i) (by omega) (by omega)
        refine ⟨c', k1, ?_⟩
        rw [show sk T (m + 1) p = sk T m (p + 1) from if_pos q2]
        (first | (refine (vlt (x := g 446 1) (y := g 1 1) (by omega) (by omega)).trans ?_) | (refine (vF_g rfl rfl).trans ?_; refine (vF_g rfl rfl).trans ?_; refine (vlt (x := g 446 1) (y := g 1 1) (by omega) (by omega)).trans ?_) | (refine (vF_g rfl rfl).trans ?_; refine (vlt (x := g 446 1) (y := g 1 1) (by omega) (by omega)).trans ?_))
        (first | (refine (vbnd_0 (v_byteAt (i := g 446 1) (f := g) (by omega) (by omega))).trans ?_) | (refine (vF_g rfl rfl).trans ?_; refine (vF_g rfl rfl).trans ?_; refine (vbnd_0 (v_byteAt (i := g 446 1) (f := g) (by omega) (by omega))).trans ?_) | (refine (vF_g rfl rfl).trans ?_; refine (vbnd_0 (v_byteAt (i := g 446 1) (f := g) (by omega) (by omega))).trans ?_))
        (first | (refine (veq (x := bt g (g 446 1)) (y := 32) (by rw [h1, h3]; exact q2)).trans ?_) | (refine (vF_g rfl rfl).trans ?_; refine (vF_g rfl rfl).trans ?_; refine (veq (x := bt g (g 446 1)) (y := 32) (by rw [h1, h3]; exact q2)).trans ?_) | (refine (vF_g rfl rfl).trans ?_; refine (veq (x := bt g (g 446 1)) (y := 32) (by rw [h1, h3]; exact q2)).trans ?_))
        (first | (refine Eq.trans (b := vFn (vM MT0 (D + 1)) nb_X7_next F1 0 0 [vR 446, vW 3] [] (vup g 446 1 ((g 446 1 + 1) % 4294967296))) rfl ?_) | (refine (vF_g rfl rfl).trans ?_; refine (vF_g rfl rfl).trans ?_; refine Eq.trans (b := vFn (vM MT0 (D + 1)) nb_X7_next F1 0 0 [vR 446, vW 3] [] (vup g 446 1 ((g 446 1 + 1) % 4294967296))) rfl ?_) | (refine (vF_g rfl rfl).trans ?_; refine Eq.trans (b := vFn (vM MT0 (D + 1)) nb_X7_next F1 0 0 [vR 446, vW 3] [] (vup g 446 1 ((g 446 1 + 1) % 4294967296))) rfl ?_))
        rw [h1, Nat.mod_eq_of_lt (show p + 1 < 4294967296 by omega), k2, vup_vup]
      · refine ⟨F1 + 1, by omega, ?_⟩
        rw [show sk T (m + 1) p = p from if_neg q2, vup_id h1]
        (first | (refine (vlt (x := g 446 1) (y := g 1 1) (by omega) (by omega)).trans ?_) | (refine (vF_g rfl rfl).trans ?_; refine (vF_g rfl rfl).trans ?_; refine (vlt (x := g 446 1) (y := g 1 1) (by omega) (by omega)).trans ?_) | (refine (vF_g rfl rfl).trans ?_; refine (vlt (x := g 446 1) (y := g 1 1) (by omega) (by omega)).trans ?_))
        (first | (refine (vbnd_0 (v_byteAt (i := g 446 1) (f := g) (by omega) (by omega))).trans ?_) | (refine (vF_g rfl rfl).trans ?_; refine (vF_g rfl rfl).trans ?_; refine (vbnd_0 (v_byteAt (i := g 446 1) (f := g) (by omega) (by omega))).trans ?_) | (refine (vF_g rfl rfl).trans ?_; refine (vbnd_0 (v_byteAt (i := g 446 1) (f := g) (by omega) (by omega))).trans ?_))
        (first | (exact (vne (x := bt g (g 446 1)) (y := 32) (bt_l32 _ _) (by decide) (by rw [h1, h3]; exact q2))) | (refine (vF_g rfl rfl).trans ?_; refine (vF_g rfl rfl).trans ?_; exact (vne (x := bt g (g 446 1)) (y := 32) (bt_l32 _ _) (by decide) (by rw [h1, h3]; exact q2))) | (refine (vF_g rfl rfl).trans ?_; exact (vne (x := bt g (g 446 1)) (y := 32) (bt_l32 _ _) (by decide) (by rw [h1, h3]; exact q2))))
    · refine ⟨F1 + 2, by omega, ?_⟩
      rw [show sk T (m + 1) p = p from if_neg (by rw [hT0 p (by omega)]; decide), vup_id h1]
      (first | (exact vge2 (x := g 446 1) (y := g 1 1) (by omega) (by omega)) | (refine (vF_g rfl rfl).trans ?_; refine (vF_g rfl rfl).trans ?_; exact vge2 (x := g 446 1) (y := g 1 1) (by omega) (by omega)) | (refine (vF_g rfl rfl).trans ?_; exact vge2 (x := g 446 1) (y := g 1 1) (by omega) (by omega)))
/-- one sign more of a token -/
theorem nx_r1 {D n p k F : Nat} {T : Nat → Nat} {g : Vw} (hn : n ≤ 900) (h1 : g 446 1 = p) (h2 : g 1 1 = n) (h3 : ∀ i, bt g i = T i) (hk : g 446 2 = k) (hp : p < n) : vFn (vM MT0 (D + 1)) nb_X7_next (F + 7) 7 0 [vR 446, vI 1] [] g = vc3 (bv k) (bv 1) (vFn (vM MT0 (D + 1)) nb_X7_next (F + 4) 10 0 [vR 446, vI 1] [] (vup (vup g 446 5 (vstep (g 446 5) (T p))) 446 1 (p + 1))) (vFn (vM MT0 (D + 1)) nb_X7_next (F + 4) 11 0 [vR 446, vI 1] [] (vup (vup g 446 5 (vstep (g 446 5) (T p))) 446 1 (p + 1))) (vFn (vM MT0 (D + 1)) nb_X7_next (F + 4) 10 0 [vR 446, vI 1] [] (vup (vup g 446 5 (vstep (g 446 5) (T p))) 446 1 (p + 1))) := by
  (first | (refine (vlt (x := g 446 1) (y := g 1 1) (by omega) (by omega)).trans ?_) | (refine (vF_g rfl rfl).trans ?_; refine (vF_g rfl rfl).trans ?_; refine (vlt (x := g 446 1) (y := g 1 1) (by omega) (by omega)).trans ?_) | (refine (vF_g rfl rfl).trans ?_; refine (vlt (x := g 446 1) (y := g 1 1) (by omega) (by omega)).trans ?_))
  (first | (refine (vgt (x := 1) (y := 0) (by decide) (by decide)).trans ?_) | (refine (vF_g rfl rfl).trans ?_; refine (vF_g rfl rfl).trans ?_; refine (vgt (x := 1) (y := 0) (by decide) (by decide)).trans ?_) | (refine (vF_g rfl rfl).trans ?_; refine (vgt (x := 1) (y := 0) (by decide) (by decide)).trans ?_))
  (first | (refine (vbnd_0 (v_byteAt (i := g 446 1) (f := g) (by omega) (by omega))).trans ?_) | (refine (vF_g rfl rfl).trans ?_; refine (vF_g rfl rfl).trans ?_; refine (vbnd_0 (v_byteAt (i := g 446 1) (f := g) (by omega) (by omega))).trans ?_) | (refine (vF_g rfl rfl).trans ?_; refine (vbnd_0 (v_byteAt (i := g 446 1) (f := g) (by omega) (by omega))).trans ?_))
  have e5 : bt g (g 446 1) = T p := by rw [h1, h3]
  rw [e5]
  have hG : vup (vup g 446 5 (vstep (g 446 5) (T p))) 446 1 ((vup g 446 5 (vstep (g 446 5) (T p)) 446 1 + 1) % 4294967296) = vup (vup g 446 5 (vstep (g 446 5) (T p))) 446 1 (p + 1) := by rw [vup_ne (f := g) (Or.inr (by decide)), h1, Nat.mod_eq_of_lt (show p + 1 < 4294967296 by omega)]
  have hq : vup (vup g 446 5 (vstep (g 446 5) (T p))) 446 1 (p + 1) 446 2 = k := by rw [vup_ne (Or.inr (by decide)), vup_ne (Or.inr (by decide))]; exact hk
  (first | (refine Eq.trans (b := vc3 (bv (vup (vup g 446 5 (gB9 0 ((gB9 1 (g 446 5) 10 + T p) % 4294967296) 48)) 446 1 ((vup g 446 5 (gB9 0 ((gB9 1 (g 446 5) 10 + T p) % 4294967296) 48) 446 1 + 1) % 4294967296) 446 2)) (bv 1) (vFn (vM MT0 (D + 1)) nb_X7_next (F + 4) 10 0 [vR 446, vI 1] [] (vup (vup g 446 5 (gB9 0 ((gB9 1 (g 446 5) 10 + T p) % 4294967296) 48)) 446 1 ((vup g 446 5 (gB9 0 ((gB9 1 (g 446 5) 10 + T p) % 4294967296) 48) 446 1 + 1) % 4294967296))) (vFn (vM MT0 (D + 1)) nb_X7_next (F + 4) 11 0 [vR 446, vI 1] [] (vup (vup g 446 5 (gB9 0 ((gB9 1 (g 446 5) 10 + T p) % 4294967296) 48)) 446 1 ((vup g 446 5 (gB9 0 ((gB9 1 (g 446 5) 10 + T p) % 4294967296) 48) 446 1 + 1) % 4294967296))) (vFn (vM MT0 (D + 1)) nb_X7_next (F + 4) 10 0 [vR 446, vI 1] [] (vup (vup g 446 5 (gB9 0 ((gB9 1 (g 446 5) 10 + T p) % 4294967296) 48)) 446 1 ((vup g 446 5 (gB9 0 ((gB9 1 (g 446 5) 10 + T p) % 4294967296) 48) 446 1 + 1) % 4294967296)))) rfl ?_) | (refine (vF_g rfl rfl).trans ?_; refine (vF_g rfl rfl).trans ?_; refine Eq.trans (b := vc3 (bv (vup (vup g 446 5 (gB9 0 ((gB9 1 (g 446 5) 10 + T p) % 4294967296) 48)) 446 1 ((vup g 446 5 (gB9 0 ((gB9 1 (g 446 5) 10 + T p) % 4294967296) 48) 446 1 + 1) % 4294967296) 446 2)) (bv 1) (vFn (vM MT0 (D + 1)) nb_X7_next (F + 4) 10 0 [vR 446, vI 1] [] (vup (vup g 446 5 (gB9 0 ((gB9 1 (g 446 5) 10 + T p) % 4294967296) 48)) 446 1 ((vup g 446 5 (gB9 0 ((gB9 1 (g 446 5) 10 + T p) % 4294967296) 48) 446 1 + 1) % 4294967296))) (vFn (vM MT0 (D + 1)) nb_X7_next (F + 4) 11 0 [vR 446, vI 1] [] (vup (vup g 446 5 (gB9 0 ((gB9 1 (g 446 5) 10 + T p) % 4294967296) 48)) 446 1 ((vup g 446 5 (gB9 0 ((gB9 1 (g 446 5) 10 + T p) % 4294967296) 48) 446 1 + 1) % 4294967296))) (vFn (vM MT0 (D + 1)) nb_X7_next (F + 4) 10 0 [vR 446, vI 1] [] (vup (vup g 446 5 (gB9 0 ((gB9 1 (g 446 5) 10 + T p) % 4294967296) 48)) 446 1 ((vup g 446 5 (gB9 0 ((gB9 1 (g 446 5) 10 + T p) % 4294967296) 48) 446 1 + 1) % 4294967296)))) rfl ?_) | (refine (vF_g rfl rfl).trans ?_; refine Eq.trans (b := vc3 (bv (vup (vup g 446 5 (gB9 0 ((gB9 1 (g 446 5) 10 + T p) % 4294967296) 48)) 446 1 ((vup g 446 5 (gB9 0 ((gB9 1 (g 446 5) 10 + T p) % 4294967296) 48) 446 1 + 1) % 4294967296) 446 2)) (bv 1) (vFn (vM MT0 (D + 1)) nb_X7_next (F + 4) 10 0 [vR 446, vI 1] [] (vup (vup g 446 5 (gB9 0 ((gB9 1 (g 446 5) 10 + T p) % 4294967296) 48)) 446 1 ((vup g 446 5 (gB9 0 ((gB9 1 (g 446 5) 10 + T p) % 4294967296) 48) 446 1 + 1) % 4294967296))) (vFn (vM MT0 (D + 1)) nb_X7_next (F + 4) 11 0 [vR 446, vI 1] [] (vup (vup g 446 5 (gB9 0 ((gB9 1 (g 446 5) 10 + T p) % 4294967296) 48)) 446 1 ((vup g 446 5 (gB9 0 ((gB9 1 (g 446 5) 10 + T p) % 4294967296) 48) 446 1 + 1) % 4294967296))) (vFn (vM MT0 (D + 1)) nb_X7_next (F + 4) 10 0 [vR 446, vI 1] [] (vup (vup g 446 5 (gB9 0 ((gB9 1 (g 446 5) 10 + T p) % 4294967296) 48)) 446 1 ((vup g 446 5 (gB9 0 ((gB9 1 (g 446 5) 10 + T p) % 4294967296) 48) 446 1 + 1) % 4294967296)))) rfl ?_))
  rw [gB_0, gB_1, show g_sub ((g_imul (g 446 5) 10 + T p) % 4294967296) 48 = vstep (g 446 5) (T p) from rfl, hG, hq]
theorem nx_r11 {D n p k F : Nat} {T : Nat → Nat} {G : Vw} (hn : n ≤ 900) (hp : p < n) (hk9 : k < 4294967296) (G1 : G 446 1 = p + 1) (G2 : G 1 1 = n) (G3 : ∀ i, bt G i = T i) (Gk : G 446 2 = k) : vFn (vM MT0 (D + 1)) nb_X7_next (F + 3) 11 0 [vR 446, vI 1] [] G = vFn (vM MT0 (D + 1)) nb_X7_next F 7 0 [vR 446, vI (if kd9 (T (p + 1)) = k then 1 else 0)] [] G := by
  have hkd : kd9 (T (p + 1)) < 4294967296 := by
    unfold kd9
    split
    · decide
    · split
      · decide
      · split
        · decide
        · split
          · decide
          · split <;> decide
  (first | (refine (vbnd_0 (v_byteAt (i := G 446 1) (f := G) (by omega) (by omega))).trans ?_) | (refine (vF_g rfl rfl).trans ?_; refine (vF_g rfl rfl).trans ?_; refine (vbnd_0 (v_byteAt (i := G 446 1) (f := G) (by omega) (by omega))).trans ?_) | (refine (vF_g rfl rfl).trans ?_; refine (vbnd_0 (v_byteAt (i := G 446 1) (f := G) (by omega) (by omega))).trans ?_))
  (first | (refine (vbnd_0 (v_kindOf (x := bt G (G 446 1)) (f := G) (bt_lt _ _))).trans ?_) | (refine (vF_g rfl rfl).trans ?_; refine (vF_g rfl rfl).trans ?_; refine (vbnd_0 (v_kindOf (x := bt G (G 446 1)) (f := G) (bt_lt _ _))).trans ?_) | (refine (vF_g rfl rfl).trans ?_; refine (vbnd_0 (v_kindOf (x := bt G (G 446 1)) (f := G) (bt_lt _ _))).trans ?_))
  have e : bt G (G 446 1) = T (p + 1) := by rw [G1, G3]
  rw [e]
  by_cases q : kd9 (T (p + 1)) = k
  · rw [if_pos q]
    (first | (refine (veq (x := kd9 (T (p + 1))) (y := G 446 2) (by rw [Gk]; exact q)).trans ?_) | (refine (vF_g rfl rfl).trans ?_; refine (vF_g rfl rfl).trans ?_; refine (veq (x := kd9 (T (p + 1))) (y := G 446 2) (by rw [Gk]; exact q)).trans ?_) | (refine (vF_g rfl rfl).trans ?_; refine (veq (x := kd9 (T (p + 1))) (y := G 446 2) (by rw [Gk]; exact q)).trans ?_))
    (first | (exact rfl) | (refine (vF_g rfl rfl).trans ?_; refine (vF_g rfl rfl).trans ?_; exact rfl) | (refine (vF_g rfl rfl).trans ?_; refine (vF_g rfl rfl).trans ?_; refine (vF_g rfl rfl).trans ?_; exact rfl) | (refine (vF_g rfl rfl).trans ?_; exact rfl))
  · rw [if_neg q]
    (first | (refine (vne (x := kd9 (T (p + 1))) (y := G 446 2) hkd (by rw [Gk]; exact hk9) (by rw [Gk]; exact q)).trans ?_) | (refine (vF_g rfl rfl).trans ?_; refine (vF_g rfl rfl).trans ?_; refine (vne (x := kd9 (T (p + 1))) (y := G 446 2) hkd (by rw [Gk]; exact hk9) (by rw [Gk]; exact q)).trans ?_) | (refine (vF_g rfl rfl).trans ?_; refine (vne (x := kd9 (T (p + 1))) (y := G 446 2) hkd (by rw [Gk]; exact hk9) (by rw [Gk]; exact q)).trans ?_))
    (first | (exact rfl) | (refine (vF_g rfl rfl).trans ?_; refine (vF_g rfl rfl).trans ?_; exact rfl) | (refine (vF_g rfl rfl).trans ?_; refine (vF_g rfl rfl).trans ?_; refine (vF_g rfl rfl).trans ?_; exact rfl) | (refine (vF_g rfl rfl).trans ?_; exact rfl))
theorem nx_r13 {D F : Nat} {G : Vw} : vFn (vM MT0 (D + 1)) nb_X7_next (F + 2) 13 0 [vR 446, vI 1] [] G = vFn (vM MT0 (D + 1)) nb_X7_next F 7 0 [vR 446, vI 0] [] G := (by (first | (exact rfl) | (refine (vF_g rfl rfl).trans ?_; refine (vF_g rfl rfl).trans ?_; exact rfl) | (refine (vF_g rfl rfl).trans ?_; refine (vF_g rfl rfl).trans ?_; refine (vF_g rfl rfl).trans ?_; exact rfl) | (refine (vF_g rfl rfl).trans ?_; exact rfl)))
theorem nx_r10 {D F k : Nat} {G : Vw} (Gk : G 446 2 = k) (hk9 : k < 4294967296) (r : Option VR) : (k = 2 → vFn (vM MT0 (D + 1)) nb_X7_next F 11 0 [vR 446, vI 1] [] G = r → vFn (vM MT0 (D + 1)) nb_X7_next (F + 1) 10 0 [vR 446, vI 1] [] G = r) ∧ (k ≠ 2 → vFn (vM MT0 (D + 1)) nb_X7_next F 13 0 [vR 446, vI 1] [] G = r → vFn (vM MT0 (D + 1)) nb_X7_next (F + 1) 10 0 [vR 446, vI 1] [] G = r) :=
  ⟨fun h hr => (by (first | (refine (veq (x := G 446 2) (y := 2) (by rw [Gk]; exact h)).trans ?_) | (refine (vF_g rfl rfl).trans ?_; refine (vF_g rfl rfl).trans ?_; refine (veq (x := G 446 2) (y := 2) (by rw [Gk]; exact h)).trans ?_) | (refine (vF_g rfl rfl).trans ?_; refine (veq (x := G 446 2) (y := 2) (by rw [Gk]; exact h)).trans ?_)); (first | (exact hr) | (refine (vF_g rfl rfl).trans ?_; refine (vF_g rfl rfl).trans ?_; exact hr) | (refine (vF_g rfl rfl).trans ?_; exact hr))), fun h hr => (by (first | (refine (vne (x := G 446 2) (y := 2) (by rw [Gk]; exact hk9) (by decide) (by rw [Gk]; exact h)).trans ?_) | (refine (vF_g rfl rfl).trans ?_; refine (vF_g rfl rfl).trans ?_; refine (vne (x := G 446 2) (y := 2) (by rw [Gk]; exact hk9) (by decide) (by rw [Gk]; exact h)).trans ?_) | (refine (vF_g rfl rfl).trans ?_; refine (vne (x := G 446 2) (y := 2) (by rw [Gk]; exact hk9) (by decide) (by rw [Gk]; exact h)).trans ?_)); (first | (exact hr) | (refine (vF_g rfl rfl).trans ?_; refine (vF_g rfl rfl).trans ?_; exact hr) | (refine (vF_g rfl rfl).trans ?_; exact hr)))⟩
theorem nx_round {D n p k F : Nat} {T : Nat → Nat} {g : Vw} (hn : n ≤ 900) (h1 : g 446 1 = p) (h2 : g 1 1 = n) (h3 : ∀ i, bt g i = T i) (hk : g 446 2 = k) (hk9 : k < 4294967296) (hp : p < n) : ∃ F', F ≤ F' ∧ vFn (vM MT0 (D + 1)) nb_X7_next (F + 7) 7 0 [vR 446, vI 1] [] g = vFn (vM MT0 (D + 1)) nb_X7_next F' 7 0 [vR 446, vI (if (k = 1 ∨ k = 2) ∧ kd9 (T (p + 1)) = k then 1 else 0)] [] (vup (vup g 446 5 (vstep (g 446 5) (T p))) 446 1 (p + 1)) := by
  rw [nx_r1 (F := F) hn h1 h2 h3 hk hp]
  generalize hG : vup (vup g 446 5 (vstep (g 446 5) (T p))) 446 1 (p + 1) = G
  have G1 : G 446 1 = p + 1 := by rw [← hG]; exact vup_eq
  have G2 : G 1 1 = n := by rw [← hG, vup_ne (Or.inl (by decide)), vup_ne (Or.inl (by decide))]; exact h2
  have G3 : ∀ i, bt G i = T i := fun i => by rw [← hG, bt_up, bt_up]; exact h3 i
  have Gk : G 446 2 = k := by rw [← hG, vup_ne (Or.inr (by decide)), vup_ne (Or.inr (by decide))]; exact hk
  have at11 : ∀ F, vFn (vM MT0 (D + 1)) nb_X7_next (F + 3) 11 0 [vR 446, vI 1] [] G = vFn (vM MT0 (D + 1)) nb_X7_next F 7 0 [vR 446, vI (if kd9 (T (p + 1)) = k then 1 else 0)] [] G := fun F => nx_r11 hn hp hk9 G1 G2 G3 Gk
  by_cases c1 : k = 1
  · refine ⟨F + 1, by omega, ?_⟩
    rw [veq c1, at11 (F + 1)]
    by_cases q : kd9 (T (p + 1)) = k
    · rw [if_pos q, if_pos ⟨Or.inl c1, q⟩]
    · rw [if_neg q, if_neg (fun w => q w.2)]
  · rw [vne hk9 (by decide) c1]
    by_cases c2 : k = 2
    · refine ⟨F, by omega, (nx_r10 Gk hk9 _).1 c2 ((at11 F).trans ?_)⟩
      by_cases q : kd9 (T (p + 1)) = k
      · rw [if_pos q, if_pos ⟨Or.inr c2, q⟩]
      · rw [if_neg q, if_neg (fun w => q w.2)]
    · refine ⟨F + 1, by omega, (nx_r10 Gk hk9 _).2 c2 ?_⟩
      rw [if_neg (fun w => w.1.elim c1 c2)]
      exact nx_r13
/-- the rest of a token -/
theorem nx_rest {D n k : Nat} {T : Nat → Nat} (hn : n ≤ 900) (hT0 : ∀ i, n ≤ i → T i = 4294967295) (hk9 : k = 1 ∨ k = 2) : ∀ (m p c F : Nat) (g : Vw), c + 7 * m + 3 ≤ F → g 446 1 = p → g 1 1 = n → (∀ i, bt g i = T i) → g 446 2 = k → p ≤ n → n - p ≤ m → ∃ c', c ≤ c' ∧ vFn (vM MT0 (D + 1)) nb_X7_next F 7 0 [vR 446, vI (if kd9 (T p) = k then 1 else 0)] [] g = vFn (vM MT0 (D + 1)) nb_X7_next c' 15 0 [vR 446, vI 0] [] (vup (vup g 446 5 (vfold T k m p (g 446 5))) 446 1 (rn T k m p)) := by
  have out : ∀ (p c F : Nat) (g : Vw), c + 3 ≤ F → g 446 1 = p → g 1 1 = n → p ≤ n → ∃ c', c ≤ c' ∧ vFn (vM MT0 (D + 1)) nb_X7_next F 7 0 [vR 446, vI 0] [] g = vFn (vM MT0 (D + 1)) nb_X7_next c' 15 0 [vR 446, vI 0] [] g := by
    intro p c F g hF h1 h2 h4
    obtain ⟨F1, rfl⟩ : ∃ F1, F = F1 + 2 := ⟨F - 2, by omega⟩
    by_cases q : p < n
    · exact ⟨F1, by omega, (by (first | (refine (vlt (x := g 446 1) (y := g 1 1) (by omega) (by omega)).trans ?_) | (refine (vF_g rfl rfl).trans ?_; refine (vF_g rfl rfl).trans ?_; refine (vlt (x := g 446 1) (y := g 1 1) (by omega) (by omega)).trans ?_) | (refine (vF_g rfl rfl).trans ?_; refine (vlt (x := g 446 1) (y := g 1 1) (by omega) (by omega)).trans ?_)); (first | (exact (veq (x := 0) (y := 0) rfl)) | (refine (vF_g rfl rfl).trans ?_; refine (vF_g rfl rfl).trans ?_; exact (veq (x := 0) (y := 0) rfl)) | (refine (vF_g rfl rfl).trans ?_; exact (veq (x := 0) (y := 0) rfl))))⟩
    · exact ⟨F1 + 1, by omega, (by (first | (refine (vge2 (x := g 446 1) (y := g 1 1) (by omega) (by omega)).trans ?_) | (refine (vF_g rfl rfl).trans ?_; refine (vF_g rfl rfl).trans ?_; refine (vge2 (x := g 446 1) (y := g 1 1) (by omega) (by omega)).trans ?_) | (refine (vF_g rfl rfl).trans ?_; refine (vge2 (x := g 446 1) (y := g 1 1) (by omega) (by omega)).trans ?_)); (first | (exact rfl) | (refine (vF_g rfl rfl).trans ?_; refine (vF_g rfl rfl).trans ?_; exact rfl) | (refine (vF_g rfl rfl).trans ?_; refine (vF_g rfl rfl).trans ?_; refine (vF_g rfl rfl).trans ?_; exact rfl) | (refine (vF_g rfl rfl).trans ?_; exact rfl)))⟩
  have none9 : ∀ p, n ≤ p → kd9 (T p) ≠ k := by
    intro p hp
    rw [hT0 p hp]
    have e : kd9 4294967295 = 0 := by decide
    rw [e]
    omega
  intro m
  induction m with
  | zero =>
    intro p c F g hF h1 h2 h3 h4 h5 h6
    rw [if_neg (none9 p (by omega))]
    obtain ⟨c', k1, k2⟩ := out p c F g (by omega) h1 h2 h5
    refine ⟨c', k1, ?_⟩
    rw [k2, show vfold T k 0 p (g 446 5) = g 446 5 from rfl, show rn T k 0 p = p from rfl, vup_id (f := g) (k := 446) (i := 5) rfl, vup_id h1]
  | succ m ih =>
    intro p c F g hF h1 h2 h3 h4 h5 h6
    by_cases q : kd9 (T p) = k
    · have hp : p < n := Nat.lt_of_not_le fun w => none9 p w q
      obtain ⟨F1, rfl⟩ : ∃ F1, F = F1 + 7 := ⟨F - 7, by omega⟩
      rw [if_pos q]
      obtain ⟨F2, f1, f2⟩ := nx_round (D := D) (F := F1) hn h1 h2 h3 h4 (by omega) hp
      rw [f2]
      have e : (if (k = 1 ∨ k = 2) ∧ kd9 (T (p + 1)) = k then 1 else 0) = (if kd9 (T (p + 1)) = k then 1 else 0) := by
        by_cases w : kd9 (T (p + 1)) = k
        · rw [if_pos w, if_pos ⟨hk9, w⟩]
        · rw [if_neg w, if_neg (fun x => w x.2)]
      rw [e]
      obtain ⟨c', k1, k2⟩ := ih (p + 1) c F2 (vup (vup g 446 5 (vstep (g 446 5) (T p))) 446 1 (p + 1)) (by omega) vup_eq (by rw [vup_ne (Or.inl (by decide)), vup_ne (Or.inl (by decide))]; exact h2) (fun i => by rw [bt_up, bt_up]; exact h3 i) (by rw [vup_ne (Or.inr (by decide)), vup_ne (Or.inr (by decide))]; exact h4) (by omega) (by omega)
      refine ⟨c', k1, ?_⟩
      have e5 : vup (vup g 446 5 (vstep (g 446 5) (T p))) 446 1 (p + 1) 446 5 = vstep (g 446 5) (T p) := by rw [vup_ne (Or.inr (by decide)), vup_eq]
      have ev : vfold T k (m + 1) p (g 446 5) = vfold T k m (p + 1) (vstep (g 446 5) (T p)) := if_pos q
      have er : rn T k (m + 1) p = rn T k m (p + 1) := if_pos q
      rw [k2, e5, ev, er, vup_sw (f := vup g 446 5 (vstep (g 446 5) (T p))) (Or.inr (by decide)), vup_vup, vup_vup]
    · rw [if_neg q]
      obtain ⟨c', k1, k2⟩ := out p c F g (by omega) h1 h2 h5
      refine ⟨c', k1, ?_⟩
      have ev : vfold T k (m + 1) p (g 446 5) = g 446 5 := if_neg q
      have er : rn T k (m + 1) p = p := if_neg q
      rw [k2, ev, er, vup_id (f := g) (k := 446) (i := 5) rfl, vup_id h1]
/-- the tokens' object behind next -/
def tkv (f : Vw) (e k s v : Nat) : Vw := fun a b => if a = 446 then (if b = 1 then e else if b = 2 then k else if b = 3 then s else if b = 4 then e - s else if b = 5 then v else f a b) else f a b
theorem tkv_is {f : Vw} {e0 e k s v v0 z : Nat} (hz : z = e - s) : vup (vup (vup (vup (vup (vup (vup f 446 1 e0) 446 3 s) 446 2 k) 446 5 v0) 446 5 v) 446 1 e) 446 4 z = tkv f e k s v := by
  subst hz
  funext a b
  unfold tkv
  by_cases ha : a = 446
  · subst ha
    rw [if_pos rfl]
    by_cases b1 : b = 1
    · subst b1
      rw [if_pos rfl, vup_ne (Or.inr (by decide)), vup_eq]
    rw [if_neg b1]
    by_cases b2 : b = 2
    · subst b2
      rw [if_pos rfl, vup_ne (Or.inr (by decide)), vup_ne (Or.inr (by decide)), vup_ne (Or.inr (by decide)), vup_ne (Or.inr (by decide)), vup_eq]
    rw [if_neg b2]
    by_cases b3 : b = 3
    · subst b3
      rw [if_pos rfl, vup_ne (Or.inr (by decide)), vup_ne (Or.inr (by decide)), vup_ne (Or.inr (by decide)), vup_ne (Or.inr (by decide)), vup_ne (Or.inr (by decide)), vup_eq]
    rw [if_neg b3]
    by_cases b4 : b = 4
    · subst b4
      rw [if_pos rfl, vup_eq]
    rw [if_neg b4]
    by_cases b5 : b = 5
    · subst b5
      rw [if_pos rfl, vup_ne (Or.inr (by decide)), vup_ne (Or.inr (by decide)), vup_eq]
    rw [if_neg b5, vup_ne (Or.inr b4), vup_ne (Or.inr b1), vup_ne (Or.inr b5), vup_ne (Or.inr b5), vup_ne (Or.inr b2), vup_ne (Or.inr b3), vup_ne (Or.inr b1)]
  · rw [if_neg ha, vup_ne (Or.inl ha), vup_ne (Or.inl ha), vup_ne (Or.inl ha), vup_ne (Or.inl ha), vup_ne (Or.inl ha), vup_ne (Or.inl ha), vup_ne (Or.inl ha)]
/-- a token: where it begins, its kind, where it ends, its value -/
def tS (T : Nat → Nat) (p : Nat) : Nat := sk T 901 p
def tK (T : Nat → Nat) (p : Nat) : Nat := kd9 (T (tS T p))
def tE (T : Nat → Nat) (p : Nat) : Nat := if tK T p = 0 then tS T p else if tK T p = 1 ∨ tK T p = 2 then rn T (tK T p) 901 (tS T p) else tS T p + 1
noncomputable def tV (T : Nat → Nat) (p : Nat) : Nat := if tK T p = 0 then 0 else if tK T p = 1 ∨ tK T p = 2 then vfold T (tK T p) 901 (tS T p) 0 else vstep 0 (T (tS T p))
theorem sk_le {T : Nat → Nat} {n : Nat} (hT0 : ∀ i, n ≤ i → T i = 4294967295) : ∀ m p, p ≤ n → p ≤ sk T m p ∧ sk T m p ≤ n := by
  intro m
  induction m with
  | zero => intro p h; exact ⟨Nat.le_refl _, h⟩
  | succ m ih =>
    intro p h
    by_cases q : T p = 32
    · rw [show sk T (m + 1) p = sk T m (p + 1) from if_pos q]
      have hp : p < n := Nat.lt_of_not_le fun w => by rw [hT0 p w] at q; omega
      have := ih (p + 1) (by omega)
      omega
    · rw [show sk T (m + 1) p = p from if_neg q]
      exact ⟨Nat.le_refl _, h⟩
theorem rn_le {T : Nat → Nat} {n k : Nat} (hk : 1 ≤ k) (hT0 : ∀ i, n ≤ i → T i = 4294967295) : ∀ m p, p ≤ n → p ≤ rn T k m p ∧ rn T k m p ≤ n := by
  intro m
  induction m with
  | zero => intro p h; exact ⟨Nat.le_refl _, h⟩
  | succ m ih =>
    intro p h
    by_cases q : kd9 (T p) = k
    · rw [show rn T k (m + 1) p = rn T k m (p + 1) from if_pos q]
      have hp : p < n := Nat.lt_of_not_le fun w => by
        rw [hT0 p w, show kd9 4294967295 = 0 from by decide] at q
        omega
      have := ih (p + 1) (by omega)
      omega
    · rw [show rn T k (m + 1) p = p from if_neg q]
      exact ⟨Nat.le_refl _, h⟩
theorem kd9_0 {x : Nat} (h : x < 256 ∨ x = 4294967295) (h0 : kd9 x = 0) : x = 4294967295 := by
  unfold kd9 at h0
  rcases h with h | h
  · split at h0
    · cases h0
    · split at h0
      · cases h0
      · split at h0
        · cases h0
        · split at h0
          · cases h0
          · split at h0
            · assumption
            · cases h0
  · exact h
theorem v_next {D n p : Nat} {T : Nat → Nat} {f : Vw} (hn : n ≤ 900) (h1 : f 446 1 = p) (h2 : f 1 1 = n) (h3 : ∀ i, bt f i = T i) (hp : p ≤ n) : vM MT0 (D + 2) 48 [vR 446] f = some ((1, 0), vW 3, tkv f (tE T p) (tK T p) (tS T p) (tV T p)) := by
  have hT0 : ∀ i, n ≤ i → T i = 4294967295 := fun i hi => by
    rw [← h3 i]
    unfold bt
    rw [if_neg (by omega)]
  have hTl : ∀ i, T i < 256 ∨ T i = 4294967295 := fun i => by rw [← h3 i]; exact bt_lt f i
  obtain ⟨hs1, hs2⟩ := sk_le hT0 901 p hp
  refine vM_go rfl rfl rfl rfl fun F0 hF0 => ?_
  show vFn (vM MT0 (D + 1)) nb_X7_next (F0 + 60) 0 0 [vR 446, vW 3] [] f = _
  obtain ⟨c, c1, c2⟩ := nx_skip (D := D) hn hT0 901 p 900000 (F0 + 60) f (by omega) h1 h2 h3 hp (by omega)
  rw [c2]
  clear c2
  have hS : tS T p = sk T 901 p := rfl
  rw [← hS] at hs1 hs2 ⊢
  have hK : tK T p = kd9 (T (tS T p)) := rfl
  generalize hs : tS T p = s at hs1 hs2 hK ⊢
  generalize hk : tK T p = k at hK ⊢
  obtain ⟨F, rfl⟩ : ∃ F, c = F + 3 := ⟨c - 3, by omega⟩
  have hk32 : k < 4294967296 := by
    rw [hK]
    unfold kd9
    split
    · decide
    · split
      · decide
      · split
        · decide
        · split
          · decide
          · split <;> decide
  -- block 3
  have g1 : vup f 446 1 s 446 1 = s := vup_eq
  have e3 : vFn (vM MT0 (D + 1)) nb_X7_next (F + 3) 3 0 [vR 446, vW 3] [] (vup f 446 1 s) = vc3 (bv k) (bv 0) (vFn (vM MT0 (D + 1)) nb_X7_next (F + 2) 4 0 [vR 446, vW 3] [] (vup (vup (vup f 446 1 s) 446 3 s) 446 2 k)) (vFn (vM MT0 (D + 1)) nb_X7_next (F + 2) 5 0 [vR 446, vW 3] [] (vup (vup (vup f 446 1 s) 446 3 s) 446 2 k)) (vFn (vM MT0 (D + 1)) nb_X7_next (F + 2) 4 0 [vR 446, vW 3] [] (vup (vup (vup f 446 1 s) 446 3 s) 446 2 k)) := by
    have b1 : vup (vup f 446 1 s) 446 3 (vup f 446 1 s 446 1) 446 1 = s := by rw [vup_ne (Or.inr (by decide))]; exact g1
    have b2 : vup (vup f 446 1 s) 446 3 (vup f 446 1 s 446 1) 1 1 ≤ 900 := by rw [vup_ne (Or.inl (by decide)), vup_ne (Or.inl (by decide)), h2]; exact hn
    have b3 : bt (vup (vup f 446 1 s) 446 3 (vup f 446 1 s 446 1)) (vup (vup f 446 1 s) 446 3 (vup f 446 1 s 446 1) 446 1) = T s := by rw [b1, bt_up, bt_up, h3]
    (first | (refine (vbnd_0 (v_byteAt (i := vup (vup f 446 1 s) 446 3 (vup f 446 1 s 446 1) 446 1) (f := vup (vup f 446 1 s) 446 3 (vup f 446 1 s 446 1)) (by rw [b1]; omega) b2)).trans ?_) | (refine (vF_g rfl rfl).trans ?_; refine (vF_g rfl rfl).trans ?_; refine (vbnd_0 (v_byteAt (i := vup (vup f 446 1 s) 446 3 (vup f 446 1 s 446 1) 446 1) (f := vup (vup f 446 1 s) 446 3 (vup f 446 1 s 446 1)) (by rw [b1]; omega) b2)).trans ?_) | (refine (vF_g rfl rfl).trans ?_; refine (vbnd_0 (v_byteAt (i := vup (vup f 446 1 s) 446 3 (vup f 446 1 s 446 1) 446 1) (f := vup (vup f 446 1 s) 446 3 (vup f 446 1 s 446 1)) (by rw [b1]; omega) b2)).trans ?_))
    (first | (refine (vbnd_0 (v_kindOf (x := bt (vup (vup f 446 1 s) 446 3 (vup f 446 1 s 446 1)) (vup (vup f 446 1 s) 446 3 (vup f 446 1 s 446 1) 446 1)) (f := vup (vup f 446 1 s) 446 3 (vup f 446 1 s 446 1)) (bt_lt _ _))).trans ?_) | (refine (vF_g rfl rfl).trans ?_; refine (vF_g rfl rfl).trans ?_; refine (vbnd_0 (v_kindOf (x := bt (vup (vup f 446 1 s) 446 3 (vup f 446 1 s 446 1)) (vup (vup f 446 1 s) 446 3 (vup f 446 1 s 446 1) 446 1)) (f := vup (vup f 446 1 s) 446 3 (vup f 446 1 s 446 1)) (bt_lt _ _))).trans ?_) | (refine (vF_g rfl rfl).trans ?_; refine (vbnd_0 (v_kindOf (x := bt (vup (vup f 446 1 s) 446 3 (vup f 446 1 s 446 1)) (vup (vup f 446 1 s) 446 3 (vup f 446 1 s 446 1) 446 1)) (f := vup (vup f 446 1 s) 446 3 (vup f 446 1 s 446 1)) (bt_lt _ _))).trans ?_))
    rw [b3, ← hK, g1]
    (first | (refine Eq.trans (b := vc3 (bv (vup (vup (vup f 446 1 s) 446 3 s) 446 2 k 446 2)) (bv 0) (vFn (vM MT0 (D + 1)) nb_X7_next (F + 2) 4 0 [vR 446, vW 3] [] (vup (vup (vup f 446 1 s) 446 3 s) 446 2 k)) (vFn (vM MT0 (D + 1)) nb_X7_next (F + 2) 5 0 [vR 446, vW 3] [] (vup (vup (vup f 446 1 s) 446 3 s) 446 2 k)) (vFn (vM MT0 (D + 1)) nb_X7_next (F + 2) 4 0 [vR 446, vW 3] [] (vup (vup (vup f 446 1 s) 446 3 s) 446 2 k))) rfl ?_) | (refine (vF_g rfl rfl).trans ?_; refine (vF_g rfl rfl).trans ?_; refine Eq.trans (b := vc3 (bv (vup (vup (vup f 446 1 s) 446 3 s) 446 2 k 446 2)) (bv 0) (vFn (vM MT0 (D + 1)) nb_X7_next (F + 2) 4 0 [vR 446, vW 3] [] (vup (vup (vup f 446 1 s) 446 3 s) 446 2 k)) (vFn (vM MT0 (D + 1)) nb_X7_next (F + 2) 5 0 [vR 446, vW 3] [] (vup (vup (vup f 446 1 s) 446 3 s) 446 2 k)) (vFn (vM MT0 (D + 1)) nb_X7_next (F + 2) 4 0 [vR 446, vW 3] [] (vup (vup (vup f 446 1 s) 446 3 s) 446 2 k))) rfl ?_) | (refine (vF_g rfl rfl).trans ?_; refine Eq.trans (b := vc3 (bv (vup (vup (vup f 446 1 s) 446 3 s) 446 2 k 446 2)) (bv 0) (vFn (vM MT0 (D + 1)) nb_X7_next (F + 2) 4 0 [vR 446, vW 3] [] (vup (vup (vup f 446 1 s) 446 3 s) 446 2 k)) (vFn (vM MT0 (D + 1)) nb_X7_next (F + 2) 5 0 [vR 446, vW 3] [] (vup (vup (vup f 446 1 s) 446 3 s) 446 2 k)) (vFn (vM MT0 (D + 1)) nb_X7_next (F + 2) 4 0 [vR 446, vW 3] [] (vup (vup (vup f 446 1 s) 446 3 s) 446 2 k))) rfl ?_))
    rw [vup_eq]
  rw [e3]
  clear e3
  -- from block 7 on
  generalize hG : vup (vup (vup (vup f 446 1 s) 446 3 s) 446 2 k) 446 5 0 = G
  have G1 : G 446 1 = s := by rw [← hG, vup_ne (Or.inr (by decide)), vup_ne (Or.inr (by decide)), vup_ne (Or.inr (by decide))]; exact g1
  have G2 : G 1 1 = n := by rw [← hG, vup_ne (Or.inl (by decide)), vup_ne (Or.inl (by decide)), vup_ne (Or.inl (by decide)), vup_ne (Or.inl (by decide))]; exact h2
  have G3 : ∀ i, bt G i = T i := fun i => by rw [← hG, bt_up, bt_up, bt_up, bt_up]; exact h3 i
  have G4 : G 446 2 = k := by rw [← hG, vup_ne (Or.inr (by decide)), vup_eq]
  have G5 : G 446 5 = 0 := by rw [← hG, vup_eq]
  have Gs : G 446 3 = s := by rw [← hG, vup_ne (Or.inr (by decide)), vup_ne (Or.inr (by decide)), vup_eq]
  -- the end: the size
  have fin : ∀ (F9 e v l1 : Nat), s ≤ e → e ≤ n → vFn (vM MT0 (D + 1)) nb_X7_next (F9 + 1) 15 0 [vR 446, vI l1] [] (vup (vup G 446 5 v) 446 1 e) = some ((1, 0), vW 3, tkv f e k s v) := by
    intro F9 e v l1 he1 he2
    (first | (refine Eq.trans (b := some (((1, 0), vW 3, vup (vup (vup G 446 5 v) 446 1 e) 446 4 (g_sub (vup (vup G 446 5 v) 446 1 e 446 1) (vup (vup G 446 5 v) 446 1 e 446 3))) : VR)) rfl ?_) | (refine (vF_g rfl rfl).trans ?_; refine (vF_g rfl rfl).trans ?_; refine Eq.trans (b := some (((1, 0), vW 3, vup (vup (vup G 446 5 v) 446 1 e) 446 4 (g_sub (vup (vup G 446 5 v) 446 1 e 446 1) (vup (vup G 446 5 v) 446 1 e 446 3))) : VR)) rfl ?_) | (refine (vF_g rfl rfl).trans ?_; refine Eq.trans (b := some (((1, 0), vW 3, vup (vup (vup G 446 5 v) 446 1 e) 446 4 (g_sub (vup (vup G 446 5 v) 446 1 e 446 1) (vup (vup G 446 5 v) 446 1 e 446 3))) : VR)) rfl ?_))
    rw [vup_eq, vup_ne (Or.inr (by decide)), vup_ne (Or.inr (by decide)), Gs, ← hG, tkv_is]
    unfold g_sub
    omega
  by_cases k0 : k = 0
  · have hsn : s = n := by
      have := kd9_0 (hTl s) (by rw [← hK]; exact k0)
      rcases Nat.lt_or_ge s n with q | q
      · have h9 := bt_in (f := f) (i := s) (by rw [h2]; exact q)
        rw [h3 s] at h9
        omega
      · omega
    rw [veq k0]
    (first | (refine Eq.trans (b := vFn (vM MT0 (D + 1)) nb_X7_next F 7 0 [vR 446, vI 0] [] (vup (vup (vup (vup f 446 1 s) 446 3 s) 446 2 k) 446 5 0)) rfl ?_) | (refine (vF_g rfl rfl).trans ?_; refine (vF_g rfl rfl).trans ?_; refine Eq.trans (b := vFn (vM MT0 (D + 1)) nb_X7_next F 7 0 [vR 446, vI 0] [] (vup (vup (vup (vup f 446 1 s) 446 3 s) 446 2 k) 446 5 0)) rfl ?_) | (refine (vF_g rfl rfl).trans ?_; refine Eq.trans (b := vFn (vM MT0 (D + 1)) nb_X7_next F 7 0 [vR 446, vI 0] [] (vup (vup (vup (vup f 446 1 s) 446 3 s) 446 2 k) 446 5 0)) rfl ?_))
    rw [hG]
    obtain ⟨F9, rfl⟩ : ∃ F9, F = F9 + 2 := ⟨F - 2, by omega⟩
    have e7 : vFn (vM MT0 (D + 1)) nb_X7_next (F9 + 2) 7 0 [vR 446, vI 0] [] G = vFn (vM MT0 (D + 1)) nb_X7_next (F9 + 1) 15 0 [vR 446, vI 0] [] G := (by (first | (refine (vge2 (x := G 446 1) (y := G 1 1) (by omega) (by omega)).trans ?_) | (refine (vF_g rfl rfl).trans ?_; refine (vF_g rfl rfl).trans ?_; refine (vge2 (x := G 446 1) (y := G 1 1) (by omega) (by omega)).trans ?_) | (refine (vF_g rfl rfl).trans ?_; refine (vge2 (x := G 446 1) (y := G 1 1) (by omega) (by omega)).trans ?_)); (first | (exact rfl) | (refine (vF_g rfl rfl).trans ?_; refine (vF_g rfl rfl).trans ?_; exact rfl) | (refine (vF_g rfl rfl).trans ?_; refine (vF_g rfl rfl).trans ?_; refine (vF_g rfl rfl).trans ?_; exact rfl) | (refine (vF_g rfl rfl).trans ?_; exact rfl)))
    have e8 := fin F9 s 0 0 (Nat.le_refl _) (by omega)
    rw [vup_id G5, vup_id G1] at e8
    rw [e7, e8]
    unfold tE tV
    rw [hk, hs, if_pos k0, if_pos k0]
  · have hsn : s < n := by
      rcases Nat.lt_or_ge s n with q | q
      · exact q
      · rw [hT0 s q, show kd9 4294967295 = 0 from by decide] at hK
        exact absurd hK k0
    rw [vne hk32 (by decide) k0]
    (first | (refine Eq.trans (b := vFn (vM MT0 (D + 1)) nb_X7_next F 7 0 [vR 446, vI 1] [] (vup (vup (vup (vup f 446 1 s) 446 3 s) 446 2 k) 446 5 0)) rfl ?_) | (refine (vF_g rfl rfl).trans ?_; refine (vF_g rfl rfl).trans ?_; refine Eq.trans (b := vFn (vM MT0 (D + 1)) nb_X7_next F 7 0 [vR 446, vI 1] [] (vup (vup (vup (vup f 446 1 s) 446 3 s) 446 2 k) 446 5 0)) rfl ?_) | (refine (vF_g rfl rfl).trans ?_; refine Eq.trans (b := vFn (vM MT0 (D + 1)) nb_X7_next F 7 0 [vR 446, vI 1] [] (vup (vup (vup (vup f 446 1 s) 446 3 s) 446 2 k) 446 5 0)) rfl ?_))
    rw [hG]
    obtain ⟨F9, rfl⟩ : ∃ F9, F = F9 + 7 := ⟨F - 7, by omega⟩
    obtain ⟨F2, f1, f2⟩ := nx_round (D := D) (F := F9) hn G1 G2 G3 G4 hk32 hsn
    rw [f2, G5]
    by_cases k12 : k = 1 ∨ k = 2
    · have e : (if (k = 1 ∨ k = 2) ∧ kd9 (T (s + 1)) = k then 1 else 0) = (if kd9 (T (s + 1)) = k then 1 else 0) := by
        by_cases w : kd9 (T (s + 1)) = k
        · rw [if_pos w, if_pos ⟨k12, w⟩]
        · rw [if_neg w, if_neg (fun x => w x.2)]
      rw [e]
      obtain ⟨c', k1, k2⟩ := nx_rest (D := D) hn hT0 k12 900 (s + 1) 1 F2 (vup (vup G 446 5 (vstep 0 (T s))) 446 1 (s + 1)) (by omega) vup_eq (by rw [vup_ne (Or.inl (by decide)), vup_ne (Or.inl (by decide))]; exact G2) (fun i => by rw [bt_up, bt_up]; exact G3 i) (by rw [vup_ne (Or.inr (by decide)), vup_ne (Or.inr (by decide))]; exact G4) (by omega) (by omega)
      have e5 : vup (vup G 446 5 (vstep 0 (T s))) 446 1 (s + 1) 446 5 = vstep 0 (T s) := by rw [vup_ne (Or.inr (by decide)), vup_eq]
      obtain ⟨c9, rfl⟩ : ∃ c9, c' = c9 + 1 := ⟨c' - 1, by omega⟩
      obtain ⟨r1, r2⟩ := rn_le (T := T) (k := k) (by omega) hT0 900 (s + 1) (by omega)
      rw [k2, e5, vup_sw (f := vup G 446 5 (vstep 0 (T s))) (Or.inr (by decide)), vup_vup, vup_vup, fin c9 _ _ 0 (by omega) r2]
      have w1 : tE T p = rn T k 900 (s + 1) := by
        unfold tE
        rw [hk, hs, if_neg k0, if_pos k12]
        exact if_pos hK.symm
      have w2 : tV T p = vfold T k 900 (s + 1) (vstep 0 (T s)) := by
        unfold tV
        rw [hk, hs, if_neg k0, if_pos k12]
        exact if_pos hK.symm
      rw [w1, w2]
    · rw [if_neg (fun x => k12 x.1)]
      obtain ⟨F3, rfl⟩ : ∃ F3, F2 = F3 + 3 := ⟨F2 - 3, by omega⟩
      have hG9 : ∀ v, vup (vup G 446 5 v) 446 1 (s + 1) 1 1 = n := fun v => by rw [vup_ne (Or.inl (by decide)), vup_ne (Or.inl (by decide))]; exact G2
      have w1 : tE T p = s + 1 := by
        unfold tE
        rw [hk, hs, if_neg k0, if_neg k12]
      have w2 : tV T p = vstep 0 (T s) := by
        unfold tV
        rw [hk, hs, if_neg k0, if_neg k12]
      rw [w1, w2]
      by_cases q : s + 1 < n
      · have e7 : vFn (vM MT0 (D + 1)) nb_X7_next (F3 + 3) 7 0 [vR 446, vI 0] [] (vup (vup G 446 5 (vstep 0 (T s))) 446 1 (s + 1)) = vFn (vM MT0 (D + 1)) nb_X7_next (F3 + 1) 15 0 [vR 446, vI 0] [] (vup (vup G 446 5 (vstep 0 (T s))) 446 1 (s + 1)) := (by (first | (refine (vlt (x := vup (vup G 446 5 (vstep 0 (T s))) 446 1 (s + 1) 446 1) (y := vup (vup G 446 5 (vstep 0 (T s))) 446 1 (s + 1) 1 1) (by rw [hG9]; omega) (by rw [vup_eq, hG9]; exact q)).trans ?_) | (refine (vF_g rfl rfl).trans ?_; refine (vF_g rfl rfl).trans ?_; refine (vlt (x := vup (vup G 446 5 (vstep 0 (T s))) 446 1 (s + 1) 446 1) (y := vup (vup G 446 5 (vstep 0 (T s))) 446 1 (s + 1) 1 1) (by rw [hG9]; omega) (by rw [vup_eq, hG9]; exact q)).trans ?_) | (refine (vF_g rfl rfl).trans ?_; refine (vlt (x := vup (vup G 446 5 (vstep 0 (T s))) 446 1 (s + 1) 446 1) (y := vup (vup G 446 5 (vstep 0 (T s))) 446 1 (s + 1) 1 1) (by rw [hG9]; omega) (by rw [vup_eq, hG9]; exact q)).trans ?_)); (first | (exact (veq (x := 0) (y := 0) rfl)) | (refine (vF_g rfl rfl).trans ?_; refine (vF_g rfl rfl).trans ?_; exact (veq (x := 0) (y := 0) rfl)) | (refine (vF_g rfl rfl).trans ?_; exact (veq (x := 0) (y := 0) rfl))))
        rw [e7, fin F3 _ _ 0 (by omega) (by omega)]
      · have e7 : vFn (vM MT0 (D + 1)) nb_X7_next (F3 + 3) 7 0 [vR 446, vI 0] [] (vup (vup G 446 5 (vstep 0 (T s))) 446 1 (s + 1)) = vFn (vM MT0 (D + 1)) nb_X7_next (F3 + 2) 15 0 [vR 446, vI 0] [] (vup (vup G 446 5 (vstep 0 (T s))) 446 1 (s + 1)) := (by (first | (refine (vge2 (x := vup (vup G 446 5 (vstep 0 (T s))) 446 1 (s + 1) 446 1) (y := vup (vup G 446 5 (vstep 0 (T s))) 446 1 (s + 1) 1 1) (by rw [vup_eq]; omega) (by rw [vup_eq, hG9]; omega)).trans ?_) | (refine (vF_g rfl rfl).trans ?_; refine (vF_g rfl rfl).trans ?_; refine (vge2 (x := vup (vup G 446 5 (vstep 0 (T s))) 446 1 (s + 1) 446 1) (y := vup (vup G 446 5 (vstep 0 (T s))) 446 1 (s + 1) 1 1) (by rw [vup_eq]; omega) (by rw [vup_eq, hG9]; omega)).trans ?_) | (refine (vF_g rfl rfl).trans ?_; refine (vge2 (x := vup (vup G 446 5 (vstep 0 (T s))) 446 1 (s + 1) 446 1) (y := vup (vup G 446 5 (vstep 0 (T s))) 446 1 (s + 1) 1 1) (by rw [vup_eq]; omega) (by rw [vup_eq, hG9]; omega)).trans ?_)); (first | (exact rfl) | (refine (vF_g rfl rfl).trans ?_; refine (vF_g rfl rfl).trans ?_; exact rfl) | (refine (vF_g rfl rfl).trans ?_; refine (vF_g rfl rfl).trans ?_; refine (vF_g rfl rfl).trans ?_; exact rfl) | (refine (vF_g rfl rfl).trans ?_; exact rfl)))
        rw [e7, fin (F3 + 1) _ _ 0 (by omega) (by omega)]
