/-! the program's takers of tokens -/
def wq (T : Nat → Nat) : List Nat → Nat → Bool
  | [], _ => true
  | c :: l, p => if T p = c then wq T l (p + 1) else false
def wrd (w : Nat) : List Nat := nthL txWd (w - 20)
theorem nthL_mem : ∀ (l : List (List Nat)) (i : Nat), nthL l i ∈ l ∨ nthL l i = [] := by
  intro l
  induction l with
  | nil => intro i; exact Or.inr rfl
  | cons x t ih =>
    intro i
    cases i with
    | zero => exact Or.inl List.mem_cons_self
    | succ i => exact (ih i).imp (List.mem_cons_of_mem _) id
theorem nthN_mem9 : ∀ (l : List Nat) (i : Nat), nthN l 0 i ∈ l ∨ nthN l 0 i = 0 := by
  intro l
  induction l with
  | nil => intro i; exact Or.inr rfl
  | cons x t ih =>
    intro i
    cases i with
    | zero => exact Or.inl List.mem_cons_self
    | succ i => exact (ih i).imp (List.mem_cons_of_mem _) id
theorem txW_lt : ∀ l ∈ txWd, l.length ≤ 7 ∧ ∀ c ∈ l, c < 256 := by decide
theorem wrd_len (w : Nat) : (wrd w).length ≤ 7 := by
  rcases nthL_mem txWd (w - 20) with h | h
  · exact (txW_lt _ h).1
  · unfold wrd
    rw [h]
    exact Nat.zero_le _
theorem wrd_lt (w i : Nat) : nthN (wrd w) 0 i < 256 := by
  rcases nthN_mem9 (wrd w) i with h | h
  · rcases nthL_mem txWd (w - 20) with h2 | h2
    · exact (txW_lt _ h2).2 _ h
    · unfold wrd at h ⊢
      rw [h2] at h
      cases h
  · rw [h]
    decide
theorem nthN_drop : ∀ (l : List Nat) (i : Nat), i < l.length → l.drop i = nthN l 0 i :: l.drop (i + 1) := by
  intro l
  induction l with
  | nil => intro i h; cases h
  | cons x t ih =>
    intro i h
    cases i with
    | zero => rfl
    | succ i => exact ih i (by simpa using h)
theorem v_len {D w : Nat} {f : Vw} (h1 : 20 ≤ w) (h2 : w ≤ 30) : vM MT0 (D + 1) 338 [vW w] f = some ((0, 0), vI (wrd w).length, f) := by
  show gd (Nat.ble 20 w) (gd (Nat.ble w 30) (some (((0, 0), vI (wrd w).length, f) : VR))) = _
  rw [Nat.ble_eq_true_of_le h1, Nat.ble_eq_true_of_le h2]
  rfl
theorem v_chr {D w i : Nat} {f : Vw} (h1 : 20 ≤ w) (h2 : w ≤ 30) (h3 : i < (wrd w).length) : vM MT0 (D + 1) 339 [vW w, vI i] f = some ((0, 0), vI (nthN (wrd w) 0 i), f) := by
  show gd (Nat.ble 20 w) (gd (Nat.ble w 30) (gd (Nat.ble (i + 1) (wrd w).length) (some (((0, 0), vI (nthN (wrd w) 0 i), f) : VR)))) = _
  rw [Nat.ble_eq_true_of_le h1, Nat.ble_eq_true_of_le h2, Nat.ble_eq_true_of_le (show i + 1 ≤ (wrd w).length from h3)]
  rfl
theorem wi_loop {D w s : Nat} {f : Vw} (h1 : 20 ≤ w) (h2 : w ≤ 30) (hn : f 1 1 ≤ 900) (hs : f 446 3 = s) (hs9 : s ≤ 900) : ∀ (m i F : Nat), i + m = (wrd w).length → 3 * m + 3 ≤ F → vFn (vM MT0 (D + 1)) nb_X7_wordIs F 4 0 [vR 446, vW w, vI i] [] f = some ((0, 0), vI (if wq (bt f) ((wrd w).drop i) (s + i) = true then 1 else 0), f) := by
  have hl := wrd_len w
  intro m
  induction m with
  | zero =>
    intro i F hi hF
    obtain ⟨F1, rfl⟩ : ∃ F1, F = F1 + 2 := ⟨F - 2, by omega⟩
    rw [List.drop_eq_nil_of_le (show (wrd w).length ≤ i by omega), show wq (bt f) [] (s + i) = true from rfl, if_pos rfl]
    exact (vbnd_0 (v_len h1 h2)).trans ((vge2 (by omega) (by omega)).trans rfl)
  | succ m ih =>
    intro i F hi hF
    obtain ⟨F1, rfl⟩ : ∃ F1, F = F1 + 3 := ⟨F - 3, by omega⟩
    have hx : (f 446 3 + i) % 4294967296 = s + i := by rw [hs, Nat.mod_eq_of_lt (by omega)]
    rw [nthN_drop (wrd w) i (by omega)]
    refine (vbnd_0 (v_len h1 h2)).trans ((vlt (by omega) (by omega)).trans ((vbnd_0 (v_byteAt (i := (f 446 3 + i) % 4294967296) (by rw [hx]; omega) hn)).trans ((vbnd_0 (v_chr h1 h2 (by omega))).trans ?_)))
    rw [hx]
    by_cases q : bt f (s + i) = nthN (wrd w) 0 i
    · rw [show wq (bt f) (nthN (wrd w) 0 i :: (wrd w).drop (i + 1)) (s + i) = wq (bt f) ((wrd w).drop (i + 1)) (s + i + 1) from if_pos q]
      refine (veq q).trans (Eq.trans (b := vFn (vM MT0 (D + 1)) nb_X7_wordIs F1 4 0 [vR 446, vW w, vI ((i + 1) % 4294967296)] [] f) rfl ?_)
      rw [Nat.mod_eq_of_lt (show i + 1 < 4294967296 by omega)]
      exact ih (i + 1) F1 (by omega) (by omega)
    · rw [show wq (bt f) (nthN (wrd w) 0 i :: (wrd w).drop (i + 1)) (s + i) = false from if_neg q, if_neg (by decide)]
      exact (vne (bt_l32 _ _) (by have := wrd_lt w i; omega) q).trans rfl
theorem v_wordIs {D w : Nat} {f : Vw} (h1 : 20 ≤ w) (h2 : w ≤ 30) (hn : f 1 1 ≤ 900) (hs : f 446 3 ≤ 900) (hk : f 446 2 < 4294967296) (hz : f 446 4 < 4294967296) : vM MT0 (D + 2) 49 [vR 446, vW w] f = some ((0, 0), vI (if f 446 2 = 1 ∧ f 446 4 = (wrd w).length ∧ wq (bt f) (wrd w) (f 446 3) = true then 1 else 0), f) := by
  have hl := wrd_len w
  by_cases c1 : f 446 2 = 1
  · by_cases c2 : f 446 4 = (wrd w).length
    · refine (veq c1).trans ((vbnd_0 (v_len h1 h2)).trans ((veq c2).trans (Eq.trans (b := vFn (vM MT0 (D + 1)) nb_X7_wordIs 999997 4 0 [vR 446, vW w, vI 0] [] f) rfl ?_)))
      rw [wi_loop h1 h2 hn rfl hs (wrd w).length 0 999997 (by omega) (by omega)]
      by_cases c3 : wq (bt f) (wrd w) (f 446 3) = true
      · rw [if_pos (show wq (bt f) ((wrd w).drop 0) (f 446 3 + 0) = true from c3), if_pos ⟨c1, c2, c3⟩]
      · rw [if_neg (show ¬ wq (bt f) ((wrd w).drop 0) (f 446 3 + 0) = true from c3), if_neg (fun q => c3 q.2.2)]
    · rw [if_neg (fun q => c2 q.2.1)]
      exact (veq c1).trans ((vbnd_0 (v_len h1 h2)).trans ((vne hz (by omega) c2).trans rfl))
  · rw [if_neg (fun q => c1 q.1)]
    exact (vne hk (by decide) c1).trans rfl
/-- an error told -/
noncomputable def fl (c : Nat) (f : Vw) : Vw := vup (vup f 446 6 c) 446 7 (f 446 3)
theorem v_fail9 {D c : Nat} {f : Vw} : vM MT0 (D + 1) 46 [vR 446, vI c] f = some ((0, 0), vI 0, fl c f) := by
  have e : vup f 446 6 c 446 3 = f 446 3 := vup_ne (Or.inr (by decide))
  unfold fl
  rw [← e]
  exact v_fail
theorem v_checkNumber {D lo hi : Nat} {f : Vw} (hk : f 446 2 < 4294967296) (hz : f 446 4 < 2147483648) (hv : f 446 2 = 2 → f 446 4 ≤ 4 → f 446 5 < 2147483648) (hlo : lo < 2147483648) (hhi : hi < 2147483648) : vM MT0 (D + 2) 56 [vR 446, vI lo, vI hi] f = if f 446 2 = 2 ∧ f 446 4 ≤ 4 then (if lo ≤ f 446 5 ∧ f 446 5 ≤ hi then some ((0, 0), vI 1, f) else some ((0, 0), vI 0, fl 2 f)) else some ((0, 0), vI 0, fl 1 f) := by
  by_cases c1 : f 446 2 = 2
  · by_cases c2 : f 446 4 ≤ 4
    · have hv := hv c1 c2
      rw [if_pos ⟨c1, c2⟩]
      by_cases c3 : lo ≤ f 446 5
      · by_cases c4 : f 446 5 ≤ hi
        · rw [if_pos ⟨c3, c4⟩]
          exact (veq c1).trans ((vle2 (by decide) c2).trans ((vge2 hv c3).trans ((vle2 hhi c4).trans rfl)))
        · rw [if_neg (fun q => c4 q.2)]
          exact (veq c1).trans ((vle2 (by decide) c2).trans ((vge2 hv c3).trans ((vgt hv (by omega)).trans ((vbnd_0 v_fail9).trans ((veq rfl).trans rfl)))))
      · rw [if_neg (fun q => c3 q.1)]
        exact (veq c1).trans ((vle2 (by decide) c2).trans ((vlt hlo (by omega)).trans ((vbnd_0 v_fail9).trans ((veq rfl).trans rfl))))
    · rw [if_neg (fun q => c2 q.2)]
      exact (veq c1).trans ((vgt hz (by omega)).trans ((vbnd_0 v_fail9).trans rfl))
  · rw [if_neg (fun q => c1 q.1)]
    exact (vne hk (by decide) c1).trans ((vbnd_0 v_fail9).trans rfl)
