/-! the reference's takers of tokens -/
noncomputable def flR (c : Nat) (f : Vw) : Vw := vup (vup f 452 20 c) 452 21 (f 452 18)
theorem v_must {D is c : Nat} {f : Vw} (his : is = 0 ∨ is = 1) (he : f 452 20 < 4294967296) : vM MT0 (D + 1) 230 [vR 452, vI is, vI c] f = some ((1, 0), vW 3, if is = 0 ∧ f 452 20 = 0 then flR c f else f) := by
  rcases his with h | h
  · subst h
    by_cases q : f 452 20 = 0
    · rw [if_pos ⟨rfl, q⟩]
      have e : vup f 452 20 c 452 18 = f 452 18 := vup_ne (Or.inr (by decide))
      unfold flR
      rw [← e]
      exact (veq rfl).trans ((veq q).trans rfl)
    · rw [if_neg (fun w => q w.2)]
      exact (veq rfl).trans ((vne he (by decide) q).trans rfl)
  · subst h
    rw [if_neg (fun w => by cases w.1)]
    exact (vgt (by decide) (by decide)).trans rfl
theorem v_goesPast {D : Nat} {f : Vw} : vM MT0 (D + 1) 232 [vR 452] f = some ((1, 0), vW 3, vup f 452 17 ((f 452 18 + f 452 19) % 4294967296)) := rfl
/-- the word stands there -/
def wOK (T : Nat → Nat) (w p : Nat) : Prop := tZ T p = (wrd w).length ∧ wq T (wrd w) (tS T p) = true
theorem rkv_17 {f : Vw} {T : Nat → Nat} {p : Nat} : rkv f T p 452 17 = tS T p := by
  unfold rkv
  rw [vup_ne (Or.inr (by decide)), vup_ne (Or.inr (by decide)), vup_eq]
theorem rkv_18 {f : Vw} {T : Nat → Nat} {p : Nat} : rkv f T p 452 18 = tS T p := by
  unfold rkv
  rw [vup_ne (Or.inr (by decide)), vup_eq]
theorem rkv_19 {f : Vw} {T : Nat → Nat} {p : Nat} : rkv f T p 452 19 = tZ T p := vup_eq
theorem rkv_o {f : Vw} {T : Nat → Nat} {p k i : Nat} (h : k ≠ 452 ∨ (i ≠ 17 ∧ i ≠ 18 ∧ i ≠ 19)) : rkv f T p k i = f k i := by
  unfold rkv
  rcases h with h | ⟨h1, h2, h3⟩
  · rw [vup_ne (Or.inl h), vup_ne (Or.inl h), vup_ne (Or.inl h)]
  · rw [vup_ne (Or.inr h3), vup_ne (Or.inr h2), vup_ne (Or.inr h1)]
theorem txR_rkv {f : Vw} {n p : Nat} {T : Nat → Nat} (h : TxR f n T) : TxR (rkv f T p) n T := txR_up (by decide) (txR_up (by decide) (txR_up (by decide) h))
theorem tZ_le {T : Nat → Nat} {n p : Nat} (hT0 : ∀ i, n ≤ i → T i = 4294967295) (hp : p ≤ n) : tS T p + tZ T p ≤ n := by
  obtain ⟨h1, h2⟩ := sk_le hT0 901 p hp
  obtain ⟨h3, h4⟩ := rn_le (k := 1) (by decide) hT0 901 (sk T 901 p) h2
  unfold tZ tS
  omega
theorem se_loop {D w n s x2 : Nat} {T : Nat → Nat} {f : Vw} (h1 : 20 ≤ w) (h2 : w ≤ 30) (hx : TxR f n T) (hs : f 452 18 = s) (hz : f 452 19 = (wrd w).length) (hs9 : s ≤ 900) : ∀ (m i F : Nat), i + m = (wrd w).length → 3 * m + 3 ≤ F → vFn (vM MT0 (D + 1)) nb_X11_sees F 4 0 [vR 452, vW w, vI x2, vI i] [] f = some ((0, 0), vI (if wq T ((wrd w).drop i) (s + i) = true then 1 else 0), f) := by
  have hl := wrd_len w
  intro m
  induction m with
  | zero =>
    intro i F hi hF
    obtain ⟨F1, rfl⟩ : ∃ F1, F = F1 + 2 := ⟨F - 2, by omega⟩
    rw [List.drop_eq_nil_of_le (show (wrd w).length ≤ i by omega), show wq T [] (s + i) = true from rfl, if_pos rfl]
    exact (vge2 (by omega) (by rw [hz]; omega)).trans rfl
  | succ m ih =>
    intro i F hi hF
    obtain ⟨F1, rfl⟩ : ∃ F1, F = F1 + 3 := ⟨F - 3, by omega⟩
    have hq : (f 452 18 + i) % 4294967296 = s + i := by rw [hs, Nat.mod_eq_of_lt (by omega)]
    rw [nthN_drop (wrd w) i (by omega)]
    refine (vlt (by rw [hz]; omega) (by rw [hz]; omega)).trans ((vbnd_0 (v_byteR (i := (f 452 18 + i) % 4294967296) (by rw [hq]; omega) (by rw [hx.2.1]; exact hx.1))).trans ((vbnd_0 (v_chr h1 h2 (by omega))).trans ?_))
    rw [hq, hx.2.2.1]
    have hl9 := hx.2.2.2.1 (s + i)
    by_cases q : T (s + i) = nthN (wrd w) 0 i
    · rw [show wq T (nthN (wrd w) 0 i :: (wrd w).drop (i + 1)) (s + i) = wq T ((wrd w).drop (i + 1)) (s + i + 1) from if_pos q]
      refine (veq q).trans (Eq.trans (b := vFn (vM MT0 (D + 1)) nb_X11_sees F1 4 0 [vR 452, vW w, vI x2, vI ((i + 1) % 4294967296)] [] f) rfl ?_)
      rw [Nat.mod_eq_of_lt (show i + 1 < 4294967296 by omega)]
      exact ih (i + 1) F1 (by omega) (by omega)
    · rw [show wq T (nthN (wrd w) 0 i :: (wrd w).drop (i + 1)) (s + i) = false from if_neg q, if_neg (by decide)]
      exact (vne (by omega) (by have := wrd_lt w i; omega) q).trans rfl
theorem v_sees {D w n p : Nat} {T : Nat → Nat} {f : Vw} (h1 : 20 ≤ w) (h2 : w ≤ 30) (hx : TxR f n T) (hp9 : f 452 17 = p) (hp : p ≤ n) (he : f 452 20 = 0) : vM MT0 (D + 3) 231 [vR 452, vW w] f = some ((0, 0), vI (if tZ T p = (wrd w).length ∧ wq T (wrd w) (tS T p) = true then 1 else 0), rkv f T p) := by
  have hl := wrd_len w
  have hn := hx.1
  have hz := tZ_le (T := T) hx.2.2.2.2 hp
  have e20 : rkv f T p 452 20 = 0 := by rw [rkv_o (Or.inr (by decide))]; exact he
  refine (vbnd_0 (v_nextR hx hp9 hp)).trans ((veq e20).trans ((vbnd_0 (v_len h1 h2)).trans ?_))
  by_cases c : tZ T p = (wrd w).length
  · refine (veq (by rw [rkv_19]; exact c)).trans (Eq.trans (b := vFn (vM MT0 (D + 2)) nb_X11_sees 999997 4 0 [vR 452, vW w, vI (T (tS T p)), vI 0] [] (rkv f T p)) rfl ?_)
    rw [se_loop h1 h2 (txR_rkv hx) rkv_18 (by rw [rkv_19]; exact c) (by omega) (wrd w).length 0 999997 (by omega) (by omega)]
    by_cases c3 : wq T (wrd w) (tS T p) = true
    · rw [if_pos (show wq T ((wrd w).drop 0) (tS T p + 0) = true from c3), if_pos ⟨c, c3⟩]
    · rw [if_neg (show ¬ wq T ((wrd w).drop 0) (tS T p + 0) = true from c3), if_neg (fun q => c3 q.2)]
  · rw [if_neg (fun q => c q.1)]
    exact (vne (by rw [rkv_19]; omega) (by omega) (by rw [rkv_19]; exact c)).trans rfl
/-- the values of numbers -/
theorem g_imul_s {x y : Nat} (h : x * y < 2147483648) (hx : x < 2147483648) (hy : y < 2147483648) : g_imul x y = x * y := by
  refine sg_inj (toN_lt _) (by omega) ?_
  have h1 := sg_mul x y
  have h2 : sg (g_imul x y) = w32 (sg x * sg y) := h1
  rw [h2, sg_eq (show x ≤ 2147483647 by omega), sg_eq (show y ≤ 2147483647 by omega), sg_eq (show x * y ≤ 2147483647 by omega)]
  have h3 : ((x : Int) * (y : Int)) = ((x * y : Nat) : Int) := (Int.natCast_mul x y).symm
  rw [h3]
  exact w32_id (by omega) (by omega)
theorem g_imul_c (x y : Nat) : g_imul x y = g_imul y x := by
  unfold g_imul
  rw [Int32.mul_comm]
theorem vstep_s {v x : Nat} (hv : v < 100000000) (h1 : 48 ≤ x) (h2 : x ≤ 57) : vstep v x = 10 * v + (x - 48) := by
  unfold vstep g_sub
  rw [g_imul_s (by omega) (by omega) (by omega)]
  omega
