/-! what a configuration says: pure, from a place of the text; (code, place): code 0 = good -/
noncomputable def oN (T : Nat → Nat) (p lo hi : Nat) (k : Nat → Nat × Nat) : Nat × Nat := if nuC T p lo hi = 0 then k (tE T p) else (nuC T p lo hi, tS T p)
noncomputable def oS (T : Nat → Nat) (p : Nat) (k : Nat → Nat × Nat) : Nat × Nat := if tK T p = 3 then k (tE T p) else (1, tS T p)
noncomputable def oW (T : Nat → Nat) (w p : Nat) (k : Nat → Nat × Nat) : Nat × Nat := if tK T p = 1 ∧ tE T p - tS T p = (wrd w).length ∧ wq T (wrd w) (tS T p) = true then k (tE T p) else (1, tS T p)
noncomputable def oNew (T : Nat → Nat) (N : Nat → Nat) (c p : Nat) (k : Nat → Nat × Nat) : Nat × Nat := if tK T p = 1 ∧ tE T p - tS T p ≤ 6 then (if fidx N (pkr (tN T p)) c 0 = 4294967295 then k (tE T p) else (3, tS T p)) else (1, tS T p)
noncomputable def oIt (T : Nat → Nat) (N : Nat → Nat) (c p : Nat) (k : Nat → Nat × Nat) : Nat × Nat := if tK T p = 1 ∧ tE T p - tS T p ≤ 6 then (if fidx N (pkr (tN T p)) c 0 = 4294967295 then (3, tS T p) else k (tE T p)) else (1, tS T p)
noncomputable def oEcho (T : Nat → Nat) (N : Nat → Nat) (c q p : Nat) : Nat × Nat := if 12 ≤ c then (4, q) else oNew T N c p fun p => oN T p 1 9 fun p => oN T p 1 9 fun p => oN T p 1 99 fun p => oN T p 0 9 fun p => oS T p fun p => (0, p)
noncomputable def oValley (T : Nat → Nat) (M : Nat → Nat) (d q p : Nat) : Nat × Nat := if 8 ≤ d then (4, q) else oNew T M d p fun p => oN T p 1 9 fun p => oN T p 1 3 fun p => oN T p 1 99 fun p => oN T p 0 9999 fun p => oS T p fun p => (0, p)
noncomputable def oTest (T : Nat → Nat) (N M : Nat → Nat) (c d p : Nat) : Nat × Nat := oIt T M d p fun p => oIt T N c p fun p => oS T p fun p => (0, p)
theorem oN_0 {T : Nat → Nat} {p lo hi : Nat} {k : Nat → Nat × Nat} (h : nuC T p lo hi = 0) : oN T p lo hi k = k (tE T p) := if_pos h
theorem oN_1 {T : Nat → Nat} {p lo hi : Nat} {k : Nat → Nat × Nat} (h : nuC T p lo hi ≠ 0) : oN T p lo hi k = (nuC T p lo hi, tS T p) := if_neg h
theorem oS_0 {T : Nat → Nat} {p : Nat} {k : Nat → Nat × Nat} (h : tK T p = 3) : oS T p k = k (tE T p) := if_pos h
theorem oS_1 {T : Nat → Nat} {p : Nat} {k : Nat → Nat × Nat} (h : tK T p ≠ 3) : oS T p k = (1, tS T p) := if_neg h
theorem oW_0 {T : Nat → Nat} {w p : Nat} {k : Nat → Nat × Nat} (h : wOKc T w p) : oW T w p k = k (tE T p) := if_pos h
theorem oW_1 {T : Nat → Nat} {w p : Nat} {k : Nat → Nat × Nat} (h : ¬ wOKc T w p) : oW T w p k = (1, tS T p) := if_neg h
theorem oNew_0 {T N : Nat → Nat} {c p : Nat} {k : Nat → Nat × Nat} (h : nOK T p) (h2 : fidx N (pkr (tN T p)) c 0 = 4294967295) : oNew T N c p k = k (tE T p) := (if_pos h).trans (if_pos h2)
theorem oNew_1 {T N : Nat → Nat} {c p : Nat} {k : Nat → Nat × Nat} (h : nOK T p) (h2 : fidx N (pkr (tN T p)) c 0 ≠ 4294967295) : oNew T N c p k = (3, tS T p) := (if_pos h).trans (if_neg h2)
theorem oNew_2 {T N : Nat → Nat} {c p : Nat} {k : Nat → Nat × Nat} (h : ¬ nOK T p) : oNew T N c p k = (1, tS T p) := if_neg h
theorem oIt_0 {T N : Nat → Nat} {c p : Nat} {k : Nat → Nat × Nat} (h : nOK T p) (h2 : fidx N (pkr (tN T p)) c 0 ≠ 4294967295) : oIt T N c p k = k (tE T p) := (if_pos h).trans (if_neg h2)
theorem oIt_1 {T N : Nat → Nat} {c p : Nat} {k : Nat → Nat × Nat} (h : nOK T p) (h2 : fidx N (pkr (tN T p)) c 0 = 4294967295) : oIt T N c p k = (3, tS T p) := (if_pos h).trans (if_pos h2)
theorem oIt_2 {T N : Nat → Nat} {c p : Nat} {k : Nat → Nat × Nat} (h : ¬ nOK T p) : oIt T N c p k = (1, tS T p) := if_neg h
theorem nuC_2 {T : Nat → Nat} {p lo hi : Nat} : nuC T p lo hi ≤ 2 := by
  unfold nuC
  split
  · split <;> decide
  · decide
/-- the numbers of a line: its name, its values -/
noncomputable def itE (T : Nat → Nat) : Nat → Nat → Nat
  | 0, p => p
  | k + 1, p => tE T (itE T k p)
noncomputable def rwE (T : Nat → Nat) (p i : Nat) : Nat := match i with
  | 0 => pkr (tN T p)
  | i + 1 => tV T (itE T (i + 1) p)
/-- one row more -/
def ad (E : Nat → Nat → Nat) (c : Nat) (r : Nat → Nat) : Nat → Nat → Nat := fun j i => if j = c then r i else E j i
/-- where the program's parser stands -/
def VCS (n : Nat) (T : Nat → Nat) (E V : Nat → Nat → Nat) (c d p : Nat) (f : Vw) : Prop := TxC f n T ∧ f 446 1 = p ∧ p ≤ n ∧ f 46 2 = c ∧ c ≤ 12 ∧ f 46 3 = d ∧ d ≤ 8 ∧ (∀ j, j < c → E j 0 < 9223372036854775808 ∧ ∀ i, i ≤ 4 → f (49 + j) i = E j i) ∧ ∀ j, j < d → V j 0 < 9223372036854775808 ∧ ∀ i, i ≤ 4 → f (61 + 3 * j) i = V j i
theorem VCS.tx {n c d p : Nat} {T : Nat → Nat} {E V : Nat → Nat → Nat} {f : Vw} (h : VCS n T E V c d p f) : TxC f n T := h.1
theorem VCS.at_ {n c d p : Nat} {T : Nat → Nat} {E V : Nat → Nat → Nat} {f : Vw} (h : VCS n T E V c d p f) : f 446 1 = p := h.2.1
theorem VCS.le {n c d p : Nat} {T : Nat → Nat} {E V : Nat → Nat → Nat} {f : Vw} (h : VCS n T E V c d p f) : p ≤ n := h.2.2.1
theorem VCS.c0 {n c d p : Nat} {T : Nat → Nat} {E V : Nat → Nat → Nat} {f : Vw} (h : VCS n T E V c d p f) : f 46 2 = c := h.2.2.2.1
theorem VCS.c9 {n c d p : Nat} {T : Nat → Nat} {E V : Nat → Nat → Nat} {f : Vw} (h : VCS n T E V c d p f) : c ≤ 12 := h.2.2.2.2.1
theorem VCS.d0 {n c d p : Nat} {T : Nat → Nat} {E V : Nat → Nat → Nat} {f : Vw} (h : VCS n T E V c d p f) : f 46 3 = d := h.2.2.2.2.2.1
theorem VCS.d9 {n c d p : Nat} {T : Nat → Nat} {E V : Nat → Nat → Nat} {f : Vw} (h : VCS n T E V c d p f) : d ≤ 8 := h.2.2.2.2.2.2.1
theorem VCS.nE {n c d p : Nat} {T : Nat → Nat} {E V : Nat → Nat → Nat} {f : Vw} (h : VCS n T E V c d p f) : ∀ j, j < c → E j 0 < 9223372036854775808 ∧ ∀ i, i ≤ 4 → f (49 + j) i = E j i := h.2.2.2.2.2.2.2.1
theorem VCS.nV {n c d p : Nat} {T : Nat → Nat} {E V : Nat → Nat → Nat} {f : Vw} (h : VCS n T E V c d p f) : ∀ j, j < d → V j 0 < 9223372036854775808 ∧ ∀ i, i ≤ 4 → f (61 + 3 * j) i = V j i := h.2.2.2.2.2.2.2.2
/-- it goes over to a view that says the same of all this -/
theorem cs_of {n c d p p' : Nat} {T : Nat → Nat} {E V : Nat → Nat → Nat} {f g : Vw} (h : VCS n T E V c d p f) (h1 : ∀ i, g 1 i = f 1 i) (h2 : ∀ i, g 2 i = f 2 i) (h3 : g 446 1 = p') (h4 : p' ≤ n) (h5 : g 46 2 = f 46 2) (h6 : g 46 3 = f 46 3) (h7 : ∀ j, j < c → ∀ i, i ≤ 4 → g (49 + j) i = f (49 + j) i) (h8 : ∀ j, j < d → ∀ i, i ≤ 4 → g (61 + 3 * j) i = f (61 + 3 * j) i) : VCS n T E V c d p' g := ⟨txC_of h.tx h1 h2, h3, h4, h5.trans h.c0, h.c9, h6.trans h.d0, h.d9, fun j hj => ⟨(h.nE j hj).1, fun i hi => (h7 j hj i hi).trans ((h.nE j hj).2 i hi)⟩, fun j hj => ⟨(h.nV j hj).1, fun i hi => (h8 j hj i hi).trans ((h.nV j hj).2 i hi)⟩⟩
/-- only the tokens' object may differ -/
theorem cs_fr {n c d p p' : Nat} {T : Nat → Nat} {E V : Nat → Nat → Nat} {f g : Vw} (h : VCS n T E V c d p f) (h1 : ∀ a b, a ≠ 446 → g a b = f a b) (h3 : g 446 1 = p') (h4 : p' ≤ n) : VCS n T E V c d p' g := by
  refine cs_of h (fun i => h1 _ _ (by decide)) (fun i => h1 _ _ (by decide)) h3 h4 (h1 _ _ (by decide)) (h1 _ _ (by decide)) (fun j hj i _ => h1 _ _ ?_) (fun j hj i _ => h1 _ _ ?_)
  · have := h.c9
    omega
  · have := h.d9
    omega
theorem tk9_o {p a b : Nat} {T : Nat → Nat} {f : Vw} (h : a ≠ 446) : tk9 f T p a b = f a b := tkv_o (Or.inl h)
theorem fl_o9 {e a b : Nat} {f : Vw} (h : a ≠ 446) : fl e f a b = f a b := fl_o (Or.inl h)
theorem cs_tk {n c d p : Nat} {T : Nat → Nat} {E V : Nat → Nat → Nat} {f : Vw} (h : VCS n T E V c d p f) : VCS n T E V c d (tE T p) (tk9 f T p) := cs_fr h (fun _ _ w => tk9_o w) tkq_1 (tE_le h.tx.2.2.2.2 h.le).2
/-- a place that the parser's state does not speak of -/
theorem cs_up {n c d p k i x : Nat} {T : Nat → Nat} {E V : Nat → Nat → Nat} {f : Vw} (h : VCS n T E V c d p f) (hk : k ≠ 1 ∧ k ≠ 2 ∧ k ≠ 446) (hi : ¬ (k = 46 ∧ (i = 2 ∨ i = 3))) (hr : i ≤ 4 → (∀ j, j < c → k ≠ 49 + j) ∧ ∀ j, j < d → k ≠ 61 + 3 * j) : VCS n T E V c d p (vup f k i x) := by
  refine cs_of h (fun _ => vup_ne (Or.inl hk.1.symm)) (fun _ => vup_ne (Or.inl hk.2.1.symm)) ((vup_ne (Or.inl hk.2.2.symm)).trans h.at_) h.le (vup_ne ?_) (vup_ne ?_) (fun j hj i' hi' => vup_ne ?_) (fun j hj i' hi' => vup_ne ?_)
  · omega
  · omega
  · by_cases q : i' = i
    · exact Or.inl ((hr (by omega)).1 j hj).symm
    · exact Or.inr q
  · by_cases q : i' = i
    · exact Or.inl ((hr (by omega)).2 j hj).symm
    · exact Or.inr q
/-- what stands outside of the draft and the tokens -/
def VFr (B f : Vw) : Prop := ∀ k i, (k < 46 ∨ 86 < k) → k ≠ 446 → f k i = B k i
/-- an error was told -/
def ER (B : Vw) (e q : Nat) (f : Vw) : Prop := f 446 6 = e ∧ f 446 7 = q ∧ VFr B f
/-- no error yet: nothing told -/
def OK0 (B f : Vw) : Prop := f 446 6 = 0 ∧ f 446 7 = 4294967295 ∧ VFr B f
variable {B : Vw}
theorem er_fl {e q : Nat} {f : Vw} (h : f 446 3 = q) (h0 : OK0 B f) : ER B e q (fl e f) := ⟨(vup_ne (Or.inr (by decide))).trans vup_eq, vup_eq.trans h, fun k i hk h9 => (fl_o9 h9).trans (h0.2.2 k i hk h9)⟩
theorem ok_of {f g : Vw} (h : OK0 B f) (h6 : g 446 6 = f 446 6) (h7 : g 446 7 = f 446 7) (hF : ∀ k i, (k < 46 ∨ 86 < k) → k ≠ 446 → g k i = f k i) : OK0 B g := ⟨h6.trans h.1, h7.trans h.2.1, fun k i hk h9 => (hF k i hk h9).trans (h.2.2 k i hk h9)⟩
theorem ok_tk {p : Nat} {T : Nat → Nat} {f : Vw} (h : OK0 B f) : OK0 B (tk9 f T p) := ok_of h (tkv_o (Or.inr (Or.inr (by decide)))) (tkv_o (Or.inr (Or.inr (by decide)))) (fun _ _ _ h9 => tk9_o h9)
theorem er_tk {e p : Nat} {T : Nat → Nat} {f : Vw} (h0 : OK0 B f) : ER B e (tS T p) (fl e (tk9 f T p)) := er_fl tkq_3 (ok_tk h0)
theorem ok_up {k i x : Nat} {f : Vw} (h : OK0 B f) (hk : 46 ≤ k ∧ k ≤ 86) : OK0 B (vup f k i x) := ok_of h (vup_ne (Or.inl (by omega))) (vup_ne (Or.inl (by omega))) (fun a b ha h9 => vup_ne (Or.inl (by omega)))
theorem ok_5 {x : Nat} {f : Vw} (h : OK0 B f) : OK0 B (vup f 446 5 x) := ok_of h (vup_ne (Or.inr (by decide))) (vup_ne (Or.inr (by decide))) (fun _ _ _ h9 => vup_ne (Or.inl h9))
/-- a row of zeros laid -/
noncomputable def vz (a : Nat) : Nat → Nat → Vw → Vw
  | 0, _, f => f
  | m + 1, i, f => vz a m (i + 1) (vup f a i 0)
noncomputable def sE (j x : Nat) (f : Vw) : Vw := vup (vup (vup (vup (vup f (49 + j) 0 x) (49 + j) 5 0) (49 + j) 6 0) (49 + j) 7 4294967295) (49 + j) 8 0
noncomputable def sV (j x : Nat) (f : Vw) : Vw := vup (vup (vz (63 + 3 * j) 12 0 (vup (vup (vup (vup f (61 + 3 * j) 0 x) (61 + 3 * j) 6 0) (61 + 3 * j) 7 0) (61 + 3 * j) 8 0)) (61 + 3 * j) 10 0) (61 + 3 * j) 11 0
theorem v_startE {D j x : Nat} {f : Vw} (hj : j < 12) : vM MT0 (D + 1) 21 [vR (49 + j), vJ x] f = some ((1, 0), vW 3, sE j x f) := by
  rcases (show j = 0 ∨ j = 1 ∨ j = 2 ∨ j = 3 ∨ j = 4 ∨ j = 5 ∨ j = 6 ∨ j = 7 ∨ j = 8 ∨ j = 9 ∨ j = 10 ∨ j = 11 by omega) with rfl | rfl | rfl | rfl | rfl | rfl | rfl | rfl | rfl | rfl | rfl | rfl <;> exact vM_go rfl rfl rfl rfl fun F hF => (by (first | (exact rfl) | (refine (vF_g rfl rfl).trans ?_; refine (vF_g rfl rfl).trans ?_; exact rfl) | (refine (vF_g rfl rfl).trans ?_; refine (vF_g rfl rfl).trans ?_; refine (vF_g rfl rfl).trans ?_; exact rfl) | (refine (vF_g rfl rfl).trans ?_; exact rfl)))
theorem neE_6_1 {D F j x : Nat} {f g h : Vw} {r : Option VR} (hj : j < 12) (hc : f 46 2 = j) (e1 : vM MT0 D 50 [vR 446] f = some ((0, 0), vJ x, f)) (e2 : vM MT0 D 21 [vR (49 + j), vJ x] f = some ((1, 0), vW 3, g)) (e3 : vM MT0 D 55 [vR 446, vI 1, vI 9] g = some ((0, 0), vI 1, h)) (e4 : vFn (vM MT0 D) nb_X2_takeNewEcho F 8 0 [vR 447, vR (49 + j)] [] h = r) : vFn (vM MT0 D) nb_X2_takeNewEcho (F + 1) 6 0 [vR 447, vW 3] [] f = r := by
  obtain ⟨f0, rfl⟩ : ∃ f0, f = vup f0 46 2 j := ⟨f, (vup_id hc).symm⟩
  rcases (show j = 0 ∨ j = 1 ∨ j = 2 ∨ j = 3 ∨ j = 4 ∨ j = 5 ∨ j = 6 ∨ j = 7 ∨ j = 8 ∨ j = 9 ∨ j = 10 ∨ j = 11 by omega) with rfl | rfl | rfl | rfl | rfl | rfl | rfl | rfl | rfl | rfl | rfl | rfl <;> exact (by (first | (refine (vbnd_0 e1).trans ?_) | (refine (vF_g rfl rfl).trans ?_; refine (vF_g rfl rfl).trans ?_; refine (vbnd_0 e1).trans ?_) | (refine (vF_g rfl rfl).trans ?_; refine (vbnd_0 e1).trans ?_)); (first | (refine (vbnd_1 e2).trans ?_) | (refine (vF_g rfl rfl).trans ?_; refine (vF_g rfl rfl).trans ?_; refine (vbnd_1 e2).trans ?_) | (refine (vF_g rfl rfl).trans ?_; refine (vbnd_1 e2).trans ?_)); (first | (refine (vbnd_0 e3).trans ?_) | (refine (vF_g rfl rfl).trans ?_; refine (vF_g rfl rfl).trans ?_; refine (vbnd_0 e3).trans ?_) | (refine (vF_g rfl rfl).trans ?_; refine (vbnd_0 e3).trans ?_)); (first | (refine (vgt (x := 1) (y := 0) (by decide) (by decide)).trans ?_) | (refine (vF_g rfl rfl).trans ?_; refine (vF_g rfl rfl).trans ?_; refine (vgt (x := 1) (y := 0) (by decide) (by decide)).trans ?_) | (refine (vF_g rfl rfl).trans ?_; refine (vgt (x := 1) (y := 0) (by decide) (by decide)).trans ?_)); (first | (exact e4) | (refine (vF_g rfl rfl).trans ?_; refine (vF_g rfl rfl).trans ?_; exact e4) | (refine (vF_g rfl rfl).trans ?_; exact e4)))
theorem neE_6_0 {D F j x : Nat} {f g h : Vw} {r : Option VR} (hj : j < 12) (hc : f 46 2 = j) (e1 : vM MT0 D 50 [vR 446] f = some ((0, 0), vJ x, f)) (e2 : vM MT0 D 21 [vR (49 + j), vJ x] f = some ((1, 0), vW 3, g)) (e3 : vM MT0 D 55 [vR 446, vI 1, vI 9] g = some ((0, 0), vI 0, h)) (e4 : vFn (vM MT0 D) nb_X2_takeNewEcho F 7 0 [vR 447, vR (49 + j)] [] h = r) : vFn (vM MT0 D) nb_X2_takeNewEcho (F + 1) 6 0 [vR 447, vW 3] [] f = r := by
  obtain ⟨f0, rfl⟩ : ∃ f0, f = vup f0 46 2 j := ⟨f, (vup_id hc).symm⟩
  rcases (show j = 0 ∨ j = 1 ∨ j = 2 ∨ j = 3 ∨ j = 4 ∨ j = 5 ∨ j = 6 ∨ j = 7 ∨ j = 8 ∨ j = 9 ∨ j = 10 ∨ j = 11 by omega) with rfl | rfl | rfl | rfl | rfl | rfl | rfl | rfl | rfl | rfl | rfl | rfl <;> exact (by (first | (refine (vbnd_0 e1).trans ?_) | (refine (vF_g rfl rfl).trans ?_; refine (vF_g rfl rfl).trans ?_; refine (vbnd_0 e1).trans ?_) | (refine (vF_g rfl rfl).trans ?_; refine (vbnd_0 e1).trans ?_)); (first | (refine (vbnd_1 e2).trans ?_) | (refine (vF_g rfl rfl).trans ?_; refine (vF_g rfl rfl).trans ?_; refine (vbnd_1 e2).trans ?_) | (refine (vF_g rfl rfl).trans ?_; refine (vbnd_1 e2).trans ?_)); (first | (refine (vbnd_0 e3).trans ?_) | (refine (vF_g rfl rfl).trans ?_; refine (vF_g rfl rfl).trans ?_; refine (vbnd_0 e3).trans ?_) | (refine (vF_g rfl rfl).trans ?_; refine (vbnd_0 e3).trans ?_)); (first | (refine (veq (x := 0) (y := 0) rfl).trans ?_) | (refine (vF_g rfl rfl).trans ?_; refine (vF_g rfl rfl).trans ?_; refine (veq (x := 0) (y := 0) rfl).trans ?_) | (refine (vF_g rfl rfl).trans ?_; refine (veq (x := 0) (y := 0) rfl).trans ?_)); (first | (exact e4) | (refine (vF_g rfl rfl).trans ?_; refine (vF_g rfl rfl).trans ?_; exact e4) | (refine (vF_g rfl rfl).trans ?_; exact e4)))
theorem neE_8_1 {D F j : Nat} {f h : Vw} {r : Option VR} (hj : j < 12) (e3 : vM MT0 D 55 [vR 446, vI 1, vI 9] (vup f (49 + j) 1 (f 446 5)) = some ((0, 0), vI 1, h)) (e4 : vFn (vM MT0 D) nb_X2_takeNewEcho F 10 0 [vR 447, vR (49 + j)] [] h = r) : vFn (vM MT0 D) nb_X2_takeNewEcho (F + 1) 8 0 [vR 447, vR (49 + j)] [] f = r := by
  rcases (show j = 0 ∨ j = 1 ∨ j = 2 ∨ j = 3 ∨ j = 4 ∨ j = 5 ∨ j = 6 ∨ j = 7 ∨ j = 8 ∨ j = 9 ∨ j = 10 ∨ j = 11 by omega) with rfl | rfl | rfl | rfl | rfl | rfl | rfl | rfl | rfl | rfl | rfl | rfl <;> exact (by (first | (refine (vbnd_0 e3).trans ?_) | (refine (vF_g rfl rfl).trans ?_; refine (vF_g rfl rfl).trans ?_; refine (vbnd_0 e3).trans ?_) | (refine (vF_g rfl rfl).trans ?_; refine (vbnd_0 e3).trans ?_)); (first | (refine (vgt (x := 1) (y := 0) (by decide) (by decide)).trans ?_) | (refine (vF_g rfl rfl).trans ?_; refine (vF_g rfl rfl).trans ?_; refine (vgt (x := 1) (y := 0) (by decide) (by decide)).trans ?_) | (refine (vF_g rfl rfl).trans ?_; refine (vgt (x := 1) (y := 0) (by decide) (by decide)).trans ?_)); (first | (exact e4) | (refine (vF_g rfl rfl).trans ?_; refine (vF_g rfl rfl).trans ?_; exact e4) | (refine (vF_g rfl rfl).trans ?_; exact e4)))
theorem neE_8_0 {D F j : Nat} {f h : Vw} {r : Option VR} (hj : j < 12) (e3 : vM MT0 D 55 [vR 446, vI 1, vI 9] (vup f (49 + j) 1 (f 446 5)) = some ((0, 0), vI 0, h)) (e4 : vFn (vM MT0 D) nb_X2_takeNewEcho F 9 0 [vR 447, vR (49 + j)] [] h = r) : vFn (vM MT0 D) nb_X2_takeNewEcho (F + 1) 8 0 [vR 447, vR (49 + j)] [] f = r := by
  rcases (show j = 0 ∨ j = 1 ∨ j = 2 ∨ j = 3 ∨ j = 4 ∨ j = 5 ∨ j = 6 ∨ j = 7 ∨ j = 8 ∨ j = 9 ∨ j = 10 ∨ j = 11 by omega) with rfl | rfl | rfl | rfl | rfl | rfl | rfl | rfl | rfl | rfl | rfl | rfl <;> exact (by (first | (refine (vbnd_0 e3).trans ?_) | (refine (vF_g rfl rfl).trans ?_; refine (vF_g rfl rfl).trans ?_; refine (vbnd_0 e3).trans ?_) | (refine (vF_g rfl rfl).trans ?_; refine (vbnd_0 e3).trans ?_)); (first | (refine (veq (x := 0) (y := 0) rfl).trans ?_) | (refine (vF_g rfl rfl).trans ?_; refine (vF_g rfl rfl).trans ?_; refine (veq (x := 0) (y := 0) rfl).trans ?_) | (refine (vF_g rfl rfl).trans ?_; refine (veq (x := 0) (y := 0) rfl).trans ?_)); (first | (exact e4) | (refine (vF_g rfl rfl).trans ?_; refine (vF_g rfl rfl).trans ?_; exact e4) | (refine (vF_g rfl rfl).trans ?_; exact e4)))
theorem neE_10_1 {D F j : Nat} {f h : Vw} {r : Option VR} (hj : j < 12) (e3 : vM MT0 D 55 [vR 446, vI 1, vI 99] (vup f (49 + j) 2 (f 446 5)) = some ((0, 0), vI 1, h)) (e4 : vFn (vM MT0 D) nb_X2_takeNewEcho F 12 0 [vR 447, vR (49 + j)] [] h = r) : vFn (vM MT0 D) nb_X2_takeNewEcho (F + 1) 10 0 [vR 447, vR (49 + j)] [] f = r := by
  rcases (show j = 0 ∨ j = 1 ∨ j = 2 ∨ j = 3 ∨ j = 4 ∨ j = 5 ∨ j = 6 ∨ j = 7 ∨ j = 8 ∨ j = 9 ∨ j = 10 ∨ j = 11 by omega) with rfl | rfl | rfl | rfl | rfl | rfl | rfl | rfl | rfl | rfl | rfl | rfl <;> exact (by (first | (refine (vbnd_0 e3).trans ?_) | (refine (vF_g rfl rfl).trans ?_; refine (vF_g rfl rfl).trans ?_; refine (vbnd_0 e3).trans ?_) | (refine (vF_g rfl rfl).trans ?_; refine (vbnd_0 e3).trans ?_)); (first | (refine (vgt (x := 1) (y := 0) (by decide) (by decide)).trans ?_) | (refine (vF_g rfl rfl).trans ?_; refine (vF_g rfl rfl).trans ?_; refine (vgt (x := 1) (y := 0) (by decide) (by decide)).trans ?_) | (refine (vF_g rfl rfl).trans ?_; refine (vgt (x := 1) (y := 0) (by decide) (by decide)).trans ?_)); (first | (exact e4) | (refine (vF_g rfl rfl).trans ?_; refine (vF_g rfl rfl).trans ?_; exact e4) | (refine (vF_g rfl rfl).trans ?_; exact e4)))
theorem neE_10_0 {D F j : Nat} {f h : Vw} {r : Option VR} (hj : j < 12) (e3 : vM MT0 D 55 [vR 446, vI 1, vI 99] (vup f (49 + j) 2 (f 446 5)) = some ((0, 0), vI 0, h)) (e4 : vFn (vM MT0 D) nb_X2_takeNewEcho F 11 0 [vR 447, vR (49 + j)] [] h = r) : vFn (vM MT0 D) nb_X2_takeNewEcho (F + 1) 10 0 [vR 447, vR (49 + j)] [] f = r := by
  rcases (show j = 0 ∨ j = 1 ∨ j = 2 ∨ j = 3 ∨ j = 4 ∨ j = 5 ∨ j = 6 ∨ j = 7 ∨ j = 8 ∨ j = 9 ∨ j = 10 ∨ j = 11 by omega) with rfl | rfl | rfl | rfl | rfl | rfl | rfl | rfl | rfl | rfl | rfl | rfl <;> exact (by (first | (refine (vbnd_0 e3).trans ?_) | (refine (vF_g rfl rfl).trans ?_; refine (vF_g rfl rfl).trans ?_; refine (vbnd_0 e3).trans ?_) | (refine (vF_g rfl rfl).trans ?_; refine (vbnd_0 e3).trans ?_)); (first | (refine (veq (x := 0) (y := 0) rfl).trans ?_) | (refine (vF_g rfl rfl).trans ?_; refine (vF_g rfl rfl).trans ?_; refine (veq (x := 0) (y := 0) rfl).trans ?_) | (refine (vF_g rfl rfl).trans ?_; refine (veq (x := 0) (y := 0) rfl).trans ?_)); (first | (exact e4) | (refine (vF_g rfl rfl).trans ?_; refine (vF_g rfl rfl).trans ?_; exact e4) | (refine (vF_g rfl rfl).trans ?_; exact e4)))
theorem neE_12_1 {D F j : Nat} {f h : Vw} {r : Option VR} (hj : j < 12) (e3 : vM MT0 D 55 [vR 446, vI 0, vI 9] (vup f (49 + j) 3 (f 446 5)) = some ((0, 0), vI 1, h)) (e4 : vFn (vM MT0 D) nb_X2_takeNewEcho F 14 0 [vR 447, vR (49 + j)] [] h = r) : vFn (vM MT0 D) nb_X2_takeNewEcho (F + 1) 12 0 [vR 447, vR (49 + j)] [] f = r := by
  rcases (show j = 0 ∨ j = 1 ∨ j = 2 ∨ j = 3 ∨ j = 4 ∨ j = 5 ∨ j = 6 ∨ j = 7 ∨ j = 8 ∨ j = 9 ∨ j = 10 ∨ j = 11 by omega) with rfl | rfl | rfl | rfl | rfl | rfl | rfl | rfl | rfl | rfl | rfl | rfl <;> exact (by (first | (refine (vbnd_0 e3).trans ?_) | (refine (vF_g rfl rfl).trans ?_; refine (vF_g rfl rfl).trans ?_; refine (vbnd_0 e3).trans ?_) | (refine (vF_g rfl rfl).trans ?_; refine (vbnd_0 e3).trans ?_)); (first | (refine (vgt (x := 1) (y := 0) (by decide) (by decide)).trans ?_) | (refine (vF_g rfl rfl).trans ?_; refine (vF_g rfl rfl).trans ?_; refine (vgt (x := 1) (y := 0) (by decide) (by decide)).trans ?_) | (refine (vF_g rfl rfl).trans ?_; refine (vgt (x := 1) (y := 0) (by decide) (by decide)).trans ?_)); (first | (exact e4) | (refine (vF_g rfl rfl).trans ?_; refine (vF_g rfl rfl).trans ?_; exact e4) | (refine (vF_g rfl rfl).trans ?_; exact e4)))
theorem neE_12_0 {D F j : Nat} {f h : Vw} {r : Option VR} (hj : j < 12) (e3 : vM MT0 D 55 [vR 446, vI 0, vI 9] (vup f (49 + j) 3 (f 446 5)) = some ((0, 0), vI 0, h)) (e4 : vFn (vM MT0 D) nb_X2_takeNewEcho F 13 0 [vR 447, vR (49 + j)] [] h = r) : vFn (vM MT0 D) nb_X2_takeNewEcho (F + 1) 12 0 [vR 447, vR (49 + j)] [] f = r := by
  rcases (show j = 0 ∨ j = 1 ∨ j = 2 ∨ j = 3 ∨ j = 4 ∨ j = 5 ∨ j = 6 ∨ j = 7 ∨ j = 8 ∨ j = 9 ∨ j = 10 ∨ j = 11 by omega) with rfl | rfl | rfl | rfl | rfl | rfl | rfl | rfl | rfl | rfl | rfl | rfl <;> exact (by (first | (refine (vbnd_0 e3).trans ?_) | (refine (vF_g rfl rfl).trans ?_; refine (vF_g rfl rfl).trans ?_; refine (vbnd_0 e3).trans ?_) | (refine (vF_g rfl rfl).trans ?_; refine (vbnd_0 e3).trans ?_)); (first | (refine (veq (x := 0) (y := 0) rfl).trans ?_) | (refine (vF_g rfl rfl).trans ?_; refine (vF_g rfl rfl).trans ?_; refine (veq (x := 0) (y := 0) rfl).trans ?_) | (refine (vF_g rfl rfl).trans ?_; refine (veq (x := 0) (y := 0) rfl).trans ?_)); (first | (exact e4) | (refine (vF_g rfl rfl).trans ?_; refine (vF_g rfl rfl).trans ?_; exact e4) | (refine (vF_g rfl rfl).trans ?_; exact e4)))
noncomputable def enE (j : Nat) (f : Vw) : Vw := vup (vup f (49 + j) 4 (f 446 5)) 46 2 ((vup f (49 + j) 4 (f 446 5) 46 2 + 1) % 4294967296)
theorem neE_14 {D F j b : Nat} {f h : Vw} (hj : j < 12) (hb : b ≤ 1) (e : vM MT0 D 52 [vR 446] (enE j f) = some ((0, 0), vI b, h)) : vFn (vM MT0 D) nb_X2_takeNewEcho (F + 1) 14 0 [vR 447, vR (49 + j)] [] f = some ((0, 0), vI b, h) := by
  rcases (show b = 0 ∨ b = 1 by omega) with rfl | rfl
  all_goals (rcases (show j = 0 ∨ j = 1 ∨ j = 2 ∨ j = 3 ∨ j = 4 ∨ j = 5 ∨ j = 6 ∨ j = 7 ∨ j = 8 ∨ j = 9 ∨ j = 10 ∨ j = 11 by omega) with rfl | rfl | rfl | rfl | rfl | rfl | rfl | rfl | rfl | rfl | rfl | rfl <;> exact (by (first | (refine (vbnd_0 e).trans ?_) | (refine (vF_g rfl rfl).trans ?_; refine (vF_g rfl rfl).trans ?_; refine (vbnd_0 e).trans ?_) | (refine (vF_g rfl rfl).trans ?_; refine (vbnd_0 e).trans ?_)); (first | (exact rfl) | (refine (vF_g rfl rfl).trans ?_; refine (vF_g rfl rfl).trans ?_; exact rfl) | (refine (vF_g rfl rfl).trans ?_; refine (vF_g rfl rfl).trans ?_; refine (vF_g rfl rfl).trans ?_; exact rfl) | (refine (vF_g rfl rfl).trans ?_; exact rfl))))
theorem v_startV {D j x : Nat} {f : Vw} (hj : j < 8) : vM MT0 (D + 1) 60 [vR (61 + 3 * j), vJ x] f = some ((1, 0), vW 3, sV j x f) := by
  rcases (show j = 0 ∨ j = 1 ∨ j = 2 ∨ j = 3 ∨ j = 4 ∨ j = 5 ∨ j = 6 ∨ j = 7 by omega) with rfl | rfl | rfl | rfl | rfl | rfl | rfl | rfl <;> exact vM_go rfl rfl rfl rfl fun F hF => (by (first | (refine (vlt (x := 0) (y := 12) (by decide) (by decide)).trans ?_) | (refine (vF_g rfl rfl).trans ?_; refine (vF_g rfl rfl).trans ?_; refine (vlt (x := 0) (y := 12) (by decide) (by decide)).trans ?_) | (refine (vF_g rfl rfl).trans ?_; refine (vlt (x := 0) (y := 12) (by decide) (by decide)).trans ?_)); (first | (refine (vlt (x := 1) (y := 12) (by decide) (by decide)).trans ?_) | (refine (vF_g rfl rfl).trans ?_; refine (vF_g rfl rfl).trans ?_; refine (vlt (x := 1) (y := 12) (by decide) (by decide)).trans ?_) | (refine (vF_g rfl rfl).trans ?_; refine (vlt (x := 1) (y := 12) (by decide) (by decide)).trans ?_)); (first | (refine (vlt (x := 2) (y := 12) (by decide) (by decide)).trans ?_) | (refine (vF_g rfl rfl).trans ?_; refine (vF_g rfl rfl).trans ?_; refine (vlt (x := 2) (y := 12) (by decide) (by decide)).trans ?_) | (refine (vF_g rfl rfl).trans ?_; refine (vlt (x := 2) (y := 12) (by decide) (by decide)).trans ?_)); (first | (refine (vlt (x := 3) (y := 12) (by decide) (by decide)).trans ?_) | (refine (vF_g rfl rfl).trans ?_; refine (vF_g rfl rfl).trans ?_; refine (vlt (x := 3) (y := 12) (by decide) (by decide)).trans ?_) | (refine (vF_g rfl rfl).trans ?_; refine (vlt (x := 3) (y := 12) (by decide) (by decide)).trans ?_)); (first | (refine (vlt (x := 4) (y := 12) (by decide) (by decide)).trans ?_) | (refine (vF_g rfl rfl).trans ?_; refine (vF_g rfl rfl).trans ?_; refine (vlt (x := 4) (y := 12) (by decide) (by decide)).trans ?_) | (refine (vF_g rfl rfl).trans ?_; refine (vlt (x := 4) (y := 12) (by decide) (by decide)).trans ?_)); (first | (refine (vlt (x := 5) (y := 12) (by decide) (by decide)).trans ?_) | (refine (vF_g rfl rfl).trans ?_; refine (vF_g rfl rfl).trans ?_; refine (vlt (x := 5) (y := 12) (by decide) (by decide)).trans ?_) | (refine (vF_g rfl rfl).trans ?_; refine (vlt (x := 5) (y := 12) (by decide) (by decide)).trans ?_)); (first | (refine (vlt (x := 6) (y := 12) (by decide) (by decide)).trans ?_) | (refine (vF_g rfl rfl).trans ?_; refine (vF_g rfl rfl).trans ?_; refine (vlt (x := 6) (y := 12) (by decide) (by decide)).trans ?_) | (refine (vF_g rfl rfl).trans ?_; refine (vlt (x := 6) (y := 12) (by decide) (by decide)).trans ?_)); (first | (refine (vlt (x := 7) (y := 12) (by decide) (by decide)).trans ?_) | (refine (vF_g rfl rfl).trans ?_; refine (vF_g rfl rfl).trans ?_; refine (vlt (x := 7) (y := 12) (by decide) (by decide)).trans ?_) | (refine (vF_g rfl rfl).trans ?_; refine (vlt (x := 7) (y := 12) (by decide) (by decide)).trans ?_)); (first | (refine (vlt (x := 8) (y := 12) (by decide) (by decide)).trans ?_) | (refine (vF_g rfl rfl).trans ?_; refine (vF_g rfl rfl).trans ?_; refine (vlt (x := 8) (y := 12) (by decide) (by decide)).trans ?_) | (refine (vF_g rfl rfl).trans ?_; refine (vlt (x := 8) (y := 12) (by decide) (by decide)).trans ?_)); (first | (refine (vlt (x := 9) (y := 12) (by decide) (by decide)).trans ?_) | (refine (vF_g rfl rfl).trans ?_; refine (vF_g rfl rfl).trans ?_; refine (vlt (x := 9) (y := 12) (by decide) (by decide)).trans ?_) | (refine (vF_g rfl rfl).trans ?_; refine (vlt (x := 9) (y := 12) (by decide) (by decide)).trans ?_)); (first | (refine (vlt (x := 10) (y := 12) (by decide) (by decide)).trans ?_) | (refine (vF_g rfl rfl).trans ?_; refine (vF_g rfl rfl).trans ?_; refine (vlt (x := 10) (y := 12) (by decide) (by decide)).trans ?_) | (refine (vF_g rfl rfl).trans ?_; refine (vlt (x := 10) (y := 12) (by decide) (by decide)).trans ?_)); (first | (refine (vlt (x := 11) (y := 12) (by decide) (by decide)).trans ?_) | (refine (vF_g rfl rfl).trans ?_; refine (vF_g rfl rfl).trans ?_; refine (vlt (x := 11) (y := 12) (by decide) (by decide)).trans ?_) | (refine (vF_g rfl rfl).trans ?_; refine (vlt (x := 11) (y := 12) (by decide) (by decide)).trans ?_)); (first | (refine (vge2 (x := 12) (y := 12) (by decide) (by decide)).trans ?_) | (refine (vF_g rfl rfl).trans ?_; refine (vF_g rfl rfl).trans ?_; refine (vge2 (x := 12) (y := 12) (by decide) (by decide)).trans ?_) | (refine (vF_g rfl rfl).trans ?_; refine (vge2 (x := 12) (y := 12) (by decide) (by decide)).trans ?_)); (first | (exact rfl) | (refine (vF_g rfl rfl).trans ?_; refine (vF_g rfl rfl).trans ?_; exact rfl) | (refine (vF_g rfl rfl).trans ?_; refine (vF_g rfl rfl).trans ?_; refine (vF_g rfl rfl).trans ?_; exact rfl) | (refine (vF_g rfl rfl).trans ?_; exact rfl)))
theorem neV_6_1 {D F j x : Nat} {f g h : Vw} {r : Option VR} (hj : j < 8) (hc : f 46 3 = j) (e1 : vM MT0 D 50 [vR 446] f = some ((0, 0), vJ x, f)) (e2 : vM MT0 D 60 [vR (61 + 3 * j), vJ x] f = some ((1, 0), vW 3, g)) (e3 : vM MT0 D 55 [vR 446, vI 1, vI 9] g = some ((0, 0), vI 1, h)) (e4 : vFn (vM MT0 D) nb_X2_takeNewValley F 8 0 [vR 447, vR (61 + 3 * j)] [] h = r) : vFn (vM MT0 D) nb_X2_takeNewValley (F + 1) 6 0 [vR 447, vW 3] [] f = r := by
  obtain ⟨f0, rfl⟩ : ∃ f0, f = vup f0 46 3 j := ⟨f, (vup_id hc).symm⟩
  rcases (show j = 0 ∨ j = 1 ∨ j = 2 ∨ j = 3 ∨ j = 4 ∨ j = 5 ∨ j = 6 ∨ j = 7 by omega) with rfl | rfl | rfl | rfl | rfl | rfl | rfl | rfl <;> exact (by (first | (refine (vbnd_0 e1).trans ?_) | (refine (vF_g rfl rfl).trans ?_; refine (vF_g rfl rfl).trans ?_; refine (vbnd_0 e1).trans ?_) | (refine (vF_g rfl rfl).trans ?_; refine (vbnd_0 e1).trans ?_)); (first | (refine (vbnd_1 e2).trans ?_) | (refine (vF_g rfl rfl).trans ?_; refine (vF_g rfl rfl).trans ?_; refine (vbnd_1 e2).trans ?_) | (refine (vF_g rfl rfl).trans ?_; refine (vbnd_1 e2).trans ?_)); (first | (refine (vbnd_0 e3).trans ?_) | (refine (vF_g rfl rfl).trans ?_; refine (vF_g rfl rfl).trans ?_; refine (vbnd_0 e3).trans ?_) | (refine (vF_g rfl rfl).trans ?_; refine (vbnd_0 e3).trans ?_)); (first | (refine (vgt (x := 1) (y := 0) (by decide) (by decide)).trans ?_) | (refine (vF_g rfl rfl).trans ?_; refine (vF_g rfl rfl).trans ?_; refine (vgt (x := 1) (y := 0) (by decide) (by decide)).trans ?_) | (refine (vF_g rfl rfl).trans ?_; refine (vgt (x := 1) (y := 0) (by decide) (by decide)).trans ?_)); (first | (exact e4) | (refine (vF_g rfl rfl).trans ?_; refine (vF_g rfl rfl).trans ?_; exact e4) | (refine (vF_g rfl rfl).trans ?_; exact e4)))
theorem neV_6_0 {D F j x : Nat} {f g h : Vw} {r : Option VR} (hj : j < 8) (hc : f 46 3 = j) (e1 : vM MT0 D 50 [vR 446] f = some ((0, 0), vJ x, f)) (e2 : vM MT0 D 60 [vR (61 + 3 * j), vJ x] f = some ((1, 0), vW 3, g)) (e3 : vM MT0 D 55 [vR 446, vI 1, vI 9] g = some ((0, 0), vI 0, h)) (e4 : vFn (vM MT0 D) nb_X2_takeNewValley F 7 0 [vR 447, vR (61 + 3 * j)] [] h = r) : vFn (vM MT0 D) nb_X2_takeNewValley (F + 1) 6 0 [vR 447, vW 3] [] f = r := by
  obtain ⟨f0, rfl⟩ : ∃ f0, f = vup f0 46 3 j := ⟨f, (vup_id hc).symm⟩
  rcases (show j = 0 ∨ j = 1 ∨ j = 2 ∨ j = 3 ∨ j = 4 ∨ j = 5 ∨ j = 6 ∨ j = 7 by omega) with rfl | rfl | rfl | rfl | rfl | rfl | rfl | rfl <;> exact (by (first | (refine (vbnd_0 e1).trans ?_) | (refine (vF_g rfl rfl).trans ?_; refine (vF_g rfl rfl).trans ?_; refine (vbnd_0 e1).trans ?_) | (refine (vF_g rfl rfl).trans ?_; refine (vbnd_0 e1).trans ?_)); (first | (refine (vbnd_1 e2).trans ?_) | (refine (vF_g rfl rfl).trans ?_; refine (vF_g rfl rfl).trans ?_; refine (vbnd_1 e2).trans ?_) | (refine (vF_g rfl rfl).trans ?_; refine (vbnd_1 e2).trans ?_)); (first | (refine (vbnd_0 e3).trans ?_) | (refine (vF_g rfl rfl).trans ?_; refine (vF_g rfl rfl).trans ?_; refine (vbnd_0 e3).trans ?_) | (refine (vF_g rfl rfl).trans ?_; refine (vbnd_0 e3).trans ?_)); (first | (refine (veq (x := 0) (y := 0) rfl).trans ?_) | (refine (vF_g rfl rfl).trans ?_; refine (vF_g rfl rfl).trans ?_; refine (veq (x := 0) (y := 0) rfl).trans ?_) | (refine (vF_g rfl rfl).trans ?_; refine (veq (x := 0) (y := 0) rfl).trans ?_)); (first | (exact e4) | (refine (vF_g rfl rfl).trans ?_; refine (vF_g rfl rfl).trans ?_; exact e4) | (refine (vF_g rfl rfl).trans ?_; exact e4)))
theorem neV_8_1 {D F j : Nat} {f h : Vw} {r : Option VR} (hj : j < 8) (e3 : vM MT0 D 55 [vR 446, vI 1, vI 3] (vup f (61 + 3 * j) 1 (f 446 5)) = some ((0, 0), vI 1, h)) (e4 : vFn (vM MT0 D) nb_X2_takeNewValley F 10 0 [vR 447, vR (61 + 3 * j)] [] h = r) : vFn (vM MT0 D) nb_X2_takeNewValley (F + 1) 8 0 [vR 447, vR (61 + 3 * j)] [] f = r := by
  rcases (show j = 0 ∨ j = 1 ∨ j = 2 ∨ j = 3 ∨ j = 4 ∨ j = 5 ∨ j = 6 ∨ j = 7 by omega) with rfl | rfl | rfl | rfl | rfl | rfl | rfl | rfl <;> exact (by (first | (refine (vbnd_0 e3).trans ?_) | (refine (vF_g rfl rfl).trans ?_; refine (vF_g rfl rfl).trans ?_; refine (vbnd_0 e3).trans ?_) | (refine (vF_g rfl rfl).trans ?_; refine (vbnd_0 e3).trans ?_)); (first | (refine (vgt (x := 1) (y := 0) (by decide) (by decide)).trans ?_) | (refine (vF_g rfl rfl).trans ?_; refine (vF_g rfl rfl).trans ?_; refine (vgt (x := 1) (y := 0) (by decide) (by decide)).trans ?_) | (refine (vF_g rfl rfl).trans ?_; refine (vgt (x := 1) (y := 0) (by decide) (by decide)).trans ?_)); (first | (exact e4) | (refine (vF_g rfl rfl).trans ?_; refine (vF_g rfl rfl).trans ?_; exact e4) | (refine (vF_g rfl rfl).trans ?_; exact e4)))
theorem neV_8_0 {D F j : Nat} {f h : Vw} {r : Option VR} (hj : j < 8) (e3 : vM MT0 D 55 [vR 446, vI 1, vI 3] (vup f (61 + 3 * j) 1 (f 446 5)) = some ((0, 0), vI 0, h)) (e4 : vFn (vM MT0 D) nb_X2_takeNewValley F 9 0 [vR 447, vR (61 + 3 * j)] [] h = r) : vFn (vM MT0 D) nb_X2_takeNewValley (F + 1) 8 0 [vR 447, vR (61 + 3 * j)] [] f = r := by
  rcases (show j = 0 ∨ j = 1 ∨ j = 2 ∨ j = 3 ∨ j = 4 ∨ j = 5 ∨ j = 6 ∨ j = 7 by omega) with rfl | rfl | rfl | rfl | rfl | rfl | rfl | rfl <;> exact (by (first | (refine (vbnd_0 e3).trans ?_) | (refine (vF_g rfl rfl).trans ?_; refine (vF_g rfl rfl).trans ?_; refine (vbnd_0 e3).trans ?_) | (refine (vF_g rfl rfl).trans ?_; refine (vbnd_0 e3).trans ?_)); (first | (refine (veq (x := 0) (y := 0) rfl).trans ?_) | (refine (vF_g rfl rfl).trans ?_; refine (vF_g rfl rfl).trans ?_; refine (veq (x := 0) (y := 0) rfl).trans ?_) | (refine (vF_g rfl rfl).trans ?_; refine (veq (x := 0) (y := 0) rfl).trans ?_)); (first | (exact e4) | (refine (vF_g rfl rfl).trans ?_; refine (vF_g rfl rfl).trans ?_; exact e4) | (refine (vF_g rfl rfl).trans ?_; exact e4)))
theorem neV_10_1 {D F j : Nat} {f h : Vw} {r : Option VR} (hj : j < 8) (e3 : vM MT0 D 55 [vR 446, vI 1, vI 99] (vup f (61 + 3 * j) 2 (f 446 5)) = some ((0, 0), vI 1, h)) (e4 : vFn (vM MT0 D) nb_X2_takeNewValley F 12 0 [vR 447, vR (61 + 3 * j)] [] h = r) : vFn (vM MT0 D) nb_X2_takeNewValley (F + 1) 10 0 [vR 447, vR (61 + 3 * j)] [] f = r := by
  rcases (show j = 0 ∨ j = 1 ∨ j = 2 ∨ j = 3 ∨ j = 4 ∨ j = 5 ∨ j = 6 ∨ j = 7 by omega) with rfl | rfl | rfl | rfl | rfl | rfl | rfl | rfl <;> exact (by (first | (refine (vbnd_0 e3).trans ?_) | (refine (vF_g rfl rfl).trans ?_; refine (vF_g rfl rfl).trans ?_; refine (vbnd_0 e3).trans ?_) | (refine (vF_g rfl rfl).trans ?_; refine (vbnd_0 e3).trans ?_)); (first | (refine (vgt (x := 1) (y := 0) (by decide) (by decide)).trans ?_) | (refine (vF_g rfl rfl).trans ?_; refine (vF_g rfl rfl).trans ?_; refine (vgt (x := 1) (y := 0) (by decide) (by decide)).trans ?_) | (refine (vF_g rfl rfl).trans ?_; refine (vgt (x := 1) (y := 0) (by decide) (by decide)).trans ?_)); (first | (exact e4) | (refine (vF_g rfl rfl).trans ?_; refine (vF_g rfl rfl).trans ?_; exact e4) | (refine (vF_g rfl rfl).trans ?_; exact e4)))
theorem neV_10_0 {D F j : Nat} {f h : Vw} {r : Option VR} (hj : j < 8) (e3 : vM MT0 D 55 [vR 446, vI 1, vI 99] (vup f (61 + 3 * j) 2 (f 446 5)) = some ((0, 0), vI 0, h)) (e4 : vFn (vM MT0 D) nb_X2_takeNewValley F 11 0 [vR 447, vR (61 + 3 * j)] [] h = r) : vFn (vM MT0 D) nb_X2_takeNewValley (F + 1) 10 0 [vR 447, vR (61 + 3 * j)] [] f = r := by
  rcases (show j = 0 ∨ j = 1 ∨ j = 2 ∨ j = 3 ∨ j = 4 ∨ j = 5 ∨ j = 6 ∨ j = 7 by omega) with rfl | rfl | rfl | rfl | rfl | rfl | rfl | rfl <;> exact (by (first | (refine (vbnd_0 e3).trans ?_) | (refine (vF_g rfl rfl).trans ?_; refine (vF_g rfl rfl).trans ?_; refine (vbnd_0 e3).trans ?_) | (refine (vF_g rfl rfl).trans ?_; refine (vbnd_0 e3).trans ?_)); (first | (refine (veq (x := 0) (y := 0) rfl).trans ?_) | (refine (vF_g rfl rfl).trans ?_; refine (vF_g rfl rfl).trans ?_; refine (veq (x := 0) (y := 0) rfl).trans ?_) | (refine (vF_g rfl rfl).trans ?_; refine (veq (x := 0) (y := 0) rfl).trans ?_)); (first | (exact e4) | (refine (vF_g rfl rfl).trans ?_; refine (vF_g rfl rfl).trans ?_; exact e4) | (refine (vF_g rfl rfl).trans ?_; exact e4)))
theorem neV_12_1 {D F j : Nat} {f h : Vw} {r : Option VR} (hj : j < 8) (e3 : vM MT0 D 55 [vR 446, vI 0, vI 9999] (vup f (61 + 3 * j) 3 (f 446 5)) = some ((0, 0), vI 1, h)) (e4 : vFn (vM MT0 D) nb_X2_takeNewValley F 14 0 [vR 447, vR (61 + 3 * j)] [] h = r) : vFn (vM MT0 D) nb_X2_takeNewValley (F + 1) 12 0 [vR 447, vR (61 + 3 * j)] [] f = r := by
  rcases (show j = 0 ∨ j = 1 ∨ j = 2 ∨ j = 3 ∨ j = 4 ∨ j = 5 ∨ j = 6 ∨ j = 7 by omega) with rfl | rfl | rfl | rfl | rfl | rfl | rfl | rfl <;> exact (by (first | (refine (vbnd_0 e3).trans ?_) | (refine (vF_g rfl rfl).trans ?_; refine (vF_g rfl rfl).trans ?_; refine (vbnd_0 e3).trans ?_) | (refine (vF_g rfl rfl).trans ?_; refine (vbnd_0 e3).trans ?_)); (first | (refine (vgt (x := 1) (y := 0) (by decide) (by decide)).trans ?_) | (refine (vF_g rfl rfl).trans ?_; refine (vF_g rfl rfl).trans ?_; refine (vgt (x := 1) (y := 0) (by decide) (by decide)).trans ?_) | (refine (vF_g rfl rfl).trans ?_; refine (vgt (x := 1) (y := 0) (by decide) (by decide)).trans ?_)); (first | (exact e4) | (refine (vF_g rfl rfl).trans ?_; refine (vF_g rfl rfl).trans ?_; exact e4) | (refine (vF_g rfl rfl).trans ?_; exact e4)))
theorem neV_12_0 {D F j : Nat} {f h : Vw} {r : Option VR} (hj : j < 8) (e3 : vM MT0 D 55 [vR 446, vI 0, vI 9999] (vup f (61 + 3 * j) 3 (f 446 5)) = some ((0, 0), vI 0, h)) (e4 : vFn (vM MT0 D) nb_X2_takeNewValley F 13 0 [vR 447, vR (61 + 3 * j)] [] h = r) : vFn (vM MT0 D) nb_X2_takeNewValley (F + 1) 12 0 [vR 447, vR (61 + 3 * j)] [] f = r := by
  rcases (show j = 0 ∨ j = 1 ∨ j = 2 ∨ j = 3 ∨ j = 4 ∨ j = 5 ∨ j = 6 ∨ j = 7 by omega) with rfl | rfl | rfl | rfl | rfl | rfl | rfl | rfl <;> exact (by (first | (refine (vbnd_0 e3).trans ?_) | (refine (vF_g rfl rfl).trans ?_; refine (vF_g rfl rfl).trans ?_; refine (vbnd_0 e3).trans ?_) | (refine (vF_g rfl rfl).trans ?_; refine (vbnd_0 e3).trans ?_)); (first | (refine (veq (x := 0) (y := 0) rfl).trans ?_) | (refine (vF_g rfl rfl).trans ?_; refine (vF_g rfl rfl).trans ?_; refine (veq (x := 0) (y := 0) rfl).trans ?_) | (refine (vF_g rfl rfl).trans ?_; refine (veq (x := 0) (y := 0) rfl).trans ?_)); (first | (exact e4) | (refine (vF_g rfl rfl).trans ?_; refine (vF_g rfl rfl).trans ?_; exact e4) | (refine (vF_g rfl rfl).trans ?_; exact e4)))
noncomputable def enV (j : Nat) (f : Vw) : Vw := vup (vup (vup f (61 + 3 * j) 4 (f 446 5)) 46 7 ((vup f (61 + 3 * j) 4 (f 446 5) 46 7 + vup f (61 + 3 * j) 4 (f 446 5) (61 + 3 * j) 4) % 4294967296)) 46 3 ((vup (vup f (61 + 3 * j) 4 (f 446 5)) 46 7 ((vup f (61 + 3 * j) 4 (f 446 5) 46 7 + vup f (61 + 3 * j) 4 (f 446 5) (61 + 3 * j) 4) % 4294967296) 46 3 + 1) % 4294967296)
theorem neV_14 {D F j b : Nat} {f h : Vw} (hj : j < 8) (hb : b ≤ 1) (e : vM MT0 D 52 [vR 446] (enV j f) = some ((0, 0), vI b, h)) : vFn (vM MT0 D) nb_X2_takeNewValley (F + 1) 14 0 [vR 447, vR (61 + 3 * j)] [] f = some ((0, 0), vI b, h) := by
  rcases (show b = 0 ∨ b = 1 by omega) with rfl | rfl
  all_goals (rcases (show j = 0 ∨ j = 1 ∨ j = 2 ∨ j = 3 ∨ j = 4 ∨ j = 5 ∨ j = 6 ∨ j = 7 by omega) with rfl | rfl | rfl | rfl | rfl | rfl | rfl | rfl <;> exact (by (first | (refine (vbnd_0 e).trans ?_) | (refine (vF_g rfl rfl).trans ?_; refine (vF_g rfl rfl).trans ?_; refine (vbnd_0 e).trans ?_) | (refine (vF_g rfl rfl).trans ?_; refine (vbnd_0 e).trans ?_)); (first | (exact rfl) | (refine (vF_g rfl rfl).trans ?_; refine (vF_g rfl rfl).trans ?_; exact rfl) | (refine (vF_g rfl rfl).trans ?_; refine (vF_g rfl rfl).trans ?_; refine (vF_g rfl rfl).trans ?_; exact rfl) | (refine (vF_g rfl rfl).trans ?_; exact rfl))))
theorem vz_o {a k i : Nat} : ∀ (m j : Nat) (f : Vw), k ≠ a → vz a m j f k i = f k i := by
  intro m
  induction m with
  | zero => intro j f h; rfl
  | succ m ih => intro j f h; exact (ih (j + 1) _ h).trans (vup_ne (Or.inl h))
theorem cs_puE {n c d p i x : Nat} {T : Nat → Nat} {E V : Nat → Nat → Nat} {f : Vw} (h : VCS n T E V c d p f) (hj : c < 12) (hi : i ≤ 8) : VCS n T E V c d p (vup f (49 + c) i x) := by
  have h2 := h.d9
  exact cs_up h ⟨by omega, by omega, by omega⟩ (by omega) (fun _ => ⟨fun j hj => by omega, fun j hj => by omega⟩)
theorem cs_puV {n c d p i x : Nat} {T : Nat → Nat} {E V : Nat → Nat → Nat} {f : Vw} (h : VCS n T E V c d p f) (hj : d < 8) (hi : i ≤ 11) : VCS n T E V c d p (vup f (61 + 3 * d) i x) := by
  have h2 := h.c9
  exact cs_up h ⟨by omega, by omega, by omega⟩ (by omega) (fun _ => ⟨fun j hj => by omega, fun j hj => by omega⟩)
theorem cs_vz {n c d p a : Nat} {T : Nat → Nat} {E V : Nat → Nat → Nat} (hd : a < 8) : ∀ (m j : Nat) (f : Vw), VCS n T E V c d p f → VCS n T E V c d p (vz (63 + 3 * a) m j f) := by
  intro m
  induction m with
  | zero => intro j f h; exact h
  | succ m ih =>
    intro j f h
    have h1 := h.c9
    have h2 := h.d9
    exact ih (j + 1) _ (cs_up h ⟨by omega, by omega, by omega⟩ (by omega) (fun _ => ⟨fun j hj => by omega, fun j hj => by omega⟩))
theorem cs_sE {n c d p x : Nat} {T : Nat → Nat} {E V : Nat → Nat → Nat} {f : Vw} (h : VCS n T E V c d p f) (hj : c < 12) : VCS n T E V c d p (sE c x f) := cs_puE (cs_puE (cs_puE (cs_puE (cs_puE h hj (by decide)) hj (by decide)) hj (by decide)) hj (by decide)) hj (by decide)
theorem cs_sV {n c d p x : Nat} {T : Nat → Nat} {E V : Nat → Nat → Nat} {f : Vw} (h : VCS n T E V c d p f) (hj : d < 8) : VCS n T E V c d p (sV d x f) := cs_puV (cs_puV (cs_vz hj 12 0 _ (cs_puV (cs_puV (cs_puV (cs_puV h hj (by decide)) hj (by decide)) hj (by decide)) hj (by decide))) hj (by decide)) hj (by decide)
theorem ok_sE {c x : Nat} {f : Vw} (h : OK0 B f) (hj : c < 12) : OK0 B (sE c x f) := ok_up (ok_up (ok_up (ok_up (ok_up h (by omega)) (by omega)) (by omega)) (by omega)) (by omega)
theorem ok_sV {d x : Nat} {f : Vw} (h : OK0 B f) (hj : d < 8) : OK0 B (sV d x f) := ok_up (ok_up (ok_of (ok_up (ok_up (ok_up (ok_up h (k := 61 + 3 * d) (i := 0) (x := x) (by omega)) (k := 61 + 3 * d) (i := 6) (x := 0) (by omega)) (k := 61 + 3 * d) (i := 7) (x := 0) (by omega)) (k := 61 + 3 * d) (i := 8) (x := 0) (by omega)) (vz_o 12 0 _ (by omega)) (vz_o 12 0 _ (by omega)) (fun a b ha h9 => vz_o 12 0 _ (by omega))) (by omega)) (by omega)
theorem sE_0 {c x : Nat} {f : Vw} : sE c x f (49 + c) 0 = x := (vup_ne (Or.inr (by decide))).trans ((vup_ne (Or.inr (by decide))).trans ((vup_ne (Or.inr (by decide))).trans ((vup_ne (Or.inr (by decide))).trans vup_eq)))
theorem sV_0 {d x : Nat} {f : Vw} : sV d x f (61 + 3 * d) 0 = x := (vup_ne (Or.inr (by decide))).trans ((vup_ne (Or.inr (by decide))).trans ((vz_o 12 0 _ (by omega)).trans ((vup_ne (Or.inr (by decide))).trans ((vup_ne (Or.inr (by decide))).trans ((vup_ne (Or.inr (by decide))).trans vup_eq)))))
theorem ad_n {E : Nat → Nat → Nat} {c j : Nat} {r : Nat → Nat} (h : j ≠ c) : ad E c r j = E j := funext fun i => if_neg h
theorem ad_e {E : Nat → Nat → Nat} {c : Nat} {r : Nat → Nat} : ad E c r c = r := funext fun i => if_pos rfl
theorem le4 {i : Nat} {Q : Nat → Prop} (h : i ≤ 4) (h0 : Q 0) (h1 : Q 1) (h2 : Q 2) (h3 : Q 3) (h4 : Q 4) : Q i := by
  rcases (show i = 0 ∨ i = 1 ∨ i = 2 ∨ i = 3 ∨ i = 4 by omega) with rfl | rfl | rfl | rfl | rfl
  · exact h0
  · exact h1
  · exact h2
  · exact h3
  · exact h4
theorem enE_c {j a : Nat} {f : Vw} (hj : j < 12) (hc : f 46 2 = a) (ha : a ≤ 12) : enE j f = vup (vup f (49 + j) 4 (f 446 5)) 46 2 (a + 1) := by
  unfold enE
  rw [vup_ne (f := f) (show (46 : Nat) ≠ 49 + j ∨ (2 : Nat) ≠ 4 by omega), hc, Nat.mod_eq_of_lt (show a + 1 < 4294967296 by omega)]
theorem enV_c {j a : Nat} {f : Vw} (hj : j < 8) (hc : f 46 3 = a) (ha : a ≤ 8) : ∃ y, enV j f = vup (vup (vup f (61 + 3 * j) 4 (f 446 5)) 46 7 y) 46 3 (a + 1) := by
  refine ⟨(vup f (61 + 3 * j) 4 (f 446 5) 46 7 + vup f (61 + 3 * j) 4 (f 446 5) (61 + 3 * j) 4) % 4294967296, ?_⟩
  unfold enV
  rw [vup_ne (f := vup f (61 + 3 * j) 4 (f 446 5)) (show (46 : Nat) ≠ 46 ∨ (3 : Nat) ≠ 7 by omega), vup_ne (f := f) (show (46 : Nat) ≠ 61 + 3 * j ∨ (3 : Nat) ≠ 4 by omega), hc, Nat.mod_eq_of_lt (show a + 1 < 4294967296 by omega)]
theorem cs_enE {n c d p p5 : Nat} {T : Nat → Nat} {E V : Nat → Nat → Nat} {f : Vw} (h : VCS n T E V c d p5 f) (hj : c < 12) (x0 : f (49 + c) 0 = rwE T p 0) (x1 : f (49 + c) 1 = rwE T p 1) (x2 : f (49 + c) 2 = rwE T p 2) (x3 : f (49 + c) 3 = rwE T p 3) (x4 : f 446 5 = rwE T p 4) (hn : rwE T p 0 < 9223372036854775808) : VCS n T (ad E c (rwE T p)) V (c + 1) d p5 (enE c f) := by
  have hd9 := h.d9
  have h1 : VCS n T E V c d p5 (vup f (49 + c) 4 (f 446 5)) := cs_puE h hj (by decide)
  rw [enE_c hj h.c0 h.c9]
  generalize hG : vup f (49 + c) 4 (f 446 5) = G at h1
  have y : ∀ i, i ≤ 4 → G (49 + c) i = rwE T p i := fun i hi => by
    refine le4 (Q := fun i => G (49 + c) i = rwE T p i) hi ?_ ?_ ?_ ?_ ?_
    · rw [← hG]; exact (vup_ne (Or.inr (by decide))).trans x0
    · rw [← hG]; exact (vup_ne (Or.inr (by decide))).trans x1
    · rw [← hG]; exact (vup_ne (Or.inr (by decide))).trans x2
    · rw [← hG]; exact (vup_ne (Or.inr (by decide))).trans x3
    · rw [← hG]; exact vup_eq.trans x4
  refine ⟨txC_of h1.tx (fun _ => vup_ne (Or.inl (by decide))) (fun _ => vup_ne (Or.inl (by decide))), (vup_ne (Or.inl (by decide))).trans h1.at_, h1.le, vup_eq, by omega, (vup_ne (Or.inr (by decide))).trans h1.d0, h1.d9, fun j hj2 => ?_, fun j hj2 => ⟨(h1.nV j hj2).1, fun i hi => (vup_ne (Or.inl (by omega))).trans ((h1.nV j hj2).2 i hi)⟩⟩
  by_cases q : j = c
  · subst q
    rw [ad_e]
    exact ⟨hn, fun i hi => (vup_ne (Or.inl (by omega))).trans (y i hi)⟩
  · rw [ad_n q]
    exact ⟨(h1.nE j (by omega)).1, fun i hi => (vup_ne (Or.inl (by omega))).trans ((h1.nE j (by omega)).2 i hi)⟩
theorem cs_enV {n c d p p5 : Nat} {T : Nat → Nat} {E V : Nat → Nat → Nat} {f : Vw} (h : VCS n T E V c d p5 f) (hj : d < 8) (x0 : f (61 + 3 * d) 0 = rwE T p 0) (x1 : f (61 + 3 * d) 1 = rwE T p 1) (x2 : f (61 + 3 * d) 2 = rwE T p 2) (x3 : f (61 + 3 * d) 3 = rwE T p 3) (x4 : f 446 5 = rwE T p 4) (hn : rwE T p 0 < 9223372036854775808) : VCS n T E (ad V d (rwE T p)) c (d + 1) p5 (enV d f) := by
  have hc9 := h.c9
  have h1 : VCS n T E V c d p5 (vup f (61 + 3 * d) 4 (f 446 5)) := cs_puV h hj (by decide)
  obtain ⟨z, hz⟩ := enV_c hj h.d0 h.d9
  rw [hz]
  generalize hG : vup f (61 + 3 * d) 4 (f 446 5) = G at h1
  have y : ∀ i, i ≤ 4 → G (61 + 3 * d) i = rwE T p i := fun i hi => by
    refine le4 (Q := fun i => G (61 + 3 * d) i = rwE T p i) hi ?_ ?_ ?_ ?_ ?_
    · rw [← hG]; exact (vup_ne (Or.inr (by decide))).trans x0
    · rw [← hG]; exact (vup_ne (Or.inr (by decide))).trans x1
    · rw [← hG]; exact (vup_ne (Or.inr (by decide))).trans x2
    · rw [← hG]; exact (vup_ne (Or.inr (by decide))).trans x3
    · rw [← hG]; exact vup_eq.trans x4
  have o : ∀ a b, a ≠ 46 → vup (vup G 46 7 z) 46 3 (d + 1) a b = G a b := fun a b w => (vup_ne (Or.inl w)).trans (vup_ne (Or.inl w))
  refine ⟨txC_of h1.tx (fun _ => o _ _ (by decide)) (fun _ => o _ _ (by decide)), (o _ _ (by decide)).trans h1.at_, h1.le, (vup_ne (Or.inr (by decide))).trans ((vup_ne (Or.inr (by decide))).trans h1.c0), h1.c9, vup_eq, by omega, fun j hj2 => ⟨(h1.nE j hj2).1, fun i hi => (o _ _ (by omega)).trans ((h1.nE j hj2).2 i hi)⟩, fun j hj2 => ?_⟩
  by_cases q : j = d
  · subst q
    rw [ad_e]
    exact ⟨hn, fun i hi => (o _ _ (by omega)).trans (y i hi)⟩
  · rw [ad_n q]
    exact ⟨(h1.nV j (by omega)).1, fun i hi => (o _ _ (by omega)).trans ((h1.nV j (by omega)).2 i hi)⟩
theorem ok_enE {c : Nat} {f : Vw} (h : OK0 B f) (hj : c < 12) : OK0 B (enE c f) := ok_up (ok_up h (by omega)) (by decide)
theorem ok_enV {d : Nat} {f : Vw} (h : OK0 B f) (hj : d < 8) : OK0 B (enV d f) := ok_up (ok_up (ok_up h (by omega)) (by decide)) (by decide)
theorem v_num {D lo hi n p c d : Nat} {T : Nat → Nat} {E V : Nat → Nat → Nat} {f : Vw} (h : VCS n T E V c d p f) (h0 : OK0 B f) (hlo : lo < 10000) (hhi : hi < 10000) : (nuC T p lo hi = 0 → ∃ g, vM MT0 (D + 3) 55 [vR 446, vI lo, vI hi] f = some ((0, 0), vI 1, g) ∧ VCS n T E V c d (tE T p) g ∧ OK0 B g ∧ g 446 5 = tV T p ∧ ∀ a b, a ≠ 446 → g a b = f a b) ∧ (nuC T p lo hi ≠ 0 → ∃ g, vM MT0 (D + 3) 55 [vR 446, vI lo, vI hi] f = some ((0, 0), vI 0, g) ∧ ER B (nuC T p lo hi) (tS T p) g ∧ ∀ a b, a ≠ 446 → g a b = f a b) := by
  obtain ⟨w1, w2⟩ := v_takeNumber (D := D) h.tx h.at_ h.le hlo hhi
  exact ⟨fun k => ⟨_, w1 k, cs_tk h, ok_tk h0, tkq_5, fun _ _ w => tk9_o w⟩, fun k => ⟨_, w2 k, er_tk h0, fun _ _ w => (fl_o9 w).trans (tk9_o w)⟩⟩
theorem v_semi {D n p c d : Nat} {T : Nat → Nat} {E V : Nat → Nat → Nat} {f : Vw} (h : VCS n T E V c d p f) (h0 : OK0 B f) : (tK T p = 3 → ∃ g, vM MT0 (D + 3) 52 [vR 446] f = some ((0, 0), vI 1, g) ∧ VCS n T E V c d (tE T p) g ∧ OK0 B g ∧ ∀ a b, a ≠ 446 → g a b = f a b) ∧ (tK T p ≠ 3 → ∃ g, vM MT0 (D + 3) 52 [vR 446] f = some ((0, 0), vI 0, g) ∧ ER B 1 (tS T p) g ∧ ∀ a b, a ≠ 446 → g a b = f a b) := by
  obtain ⟨w1, w2⟩ := v_takeSemi (D := D) h.tx h.at_ h.le
  exact ⟨fun k => ⟨_, w1 k, cs_tk h, ok_tk h0, fun _ _ w => tk9_o w⟩, fun k => ⟨_, w2 k, er_tk h0, fun _ _ w => (fl_o9 w).trans (tk9_o w)⟩⟩
theorem v_newE {D n c d p q : Nat} {T : Nat → Nat} {E V : Nat → Nat → Nat} {f : Vw} (h : VCS n T E V c d p f) (h0 : OK0 B f) (hq : f 446 3 = q) : ((oEcho T (fun j => E j 0) c q p).1 = 0 → ∃ g, vM MT0 (D + 5) 17 [vR 447] f = some ((0, 0), vI 1, g) ∧ VCS n T (ad E c (rwE T p)) V (c + 1) d (oEcho T (fun j => E j 0) c q p).2 g ∧ OK0 B g) ∧ ((oEcho T (fun j => E j 0) c q p).1 ≠ 0 → ∃ g, vM MT0 (D + 5) 17 [vR 447] f = some ((0, 0), vI 0, g) ∧ ER B (oEcho T (fun j => E j 0) c q p).1 (oEcho T (fun j => E j 0) c q p).2 g) := by
  unfold oEcho
  have n01 : ∀ (x : Nat), ¬ ((1, x) : Nat × Nat).1 = 0 := fun x w => absurd (show 1 = 0 from w) (by decide)
  by_cases hc : 12 ≤ c
  · rw [if_pos hc]
    exact ⟨fun w => absurd (show 4 = 0 from w) (by decide), fun _ => ⟨fl 4 f, vM_go rfl rfl rfl rfl fun F hF => (by (first | (refine (vge2 (x := f 46 2) (y := 12) (by rw [h.c0]; have := h.c9; omega) (by rw [h.c0]; exact hc)).trans ?_) | (refine (vF_g rfl rfl).trans ?_; refine (vF_g rfl rfl).trans ?_; refine (vge2 (x := f 46 2) (y := 12) (by rw [h.c0]; have := h.c9; omega) (by rw [h.c0]; exact hc)).trans ?_) | (refine (vF_g rfl rfl).trans ?_; refine (vge2 (x := f 46 2) (y := 12) (by rw [h.c0]; have := h.c9; omega) (by rw [h.c0]; exact hc)).trans ?_)); (first | (refine (vbnd_0 v_fail9).trans ?_) | (refine (vF_g rfl rfl).trans ?_; refine (vF_g rfl rfl).trans ?_; refine (vbnd_0 v_fail9).trans ?_) | (refine (vF_g rfl rfl).trans ?_; refine (vbnd_0 v_fail9).trans ?_)); (first | (exact rfl) | (refine (vF_g rfl rfl).trans ?_; refine (vF_g rfl rfl).trans ?_; exact rfl) | (refine (vF_g rfl rfl).trans ?_; refine (vF_g rfl rfl).trans ?_; refine (vF_g rfl rfl).trans ?_; exact rfl) | (refine (vF_g rfl rfl).trans ?_; exact rfl))), er_fl hq h0⟩⟩
  rw [if_neg hc]
  have hj : c < 12 := by omega
  have s0 : ∀ r, (∀ F, vFn (vM MT0 (D + 4)) nb_X2_takeNewEcho (F + 59) 2 0 [vR 447, vW 3] [] f = r) → vM MT0 (D + 5) 17 [vR 447] f = r := fun r hr => vM_go rfl rfl rfl rfl fun F hF => (by (first | (refine (vlt (x := f 46 2) (y := 12) (by decide) (by rw [h.c0]; exact hj)).trans ?_) | (refine (vF_g rfl rfl).trans ?_; refine (vF_g rfl rfl).trans ?_; refine (vlt (x := f 46 2) (y := 12) (by decide) (by rw [h.c0]; exact hj)).trans ?_) | (refine (vF_g rfl rfl).trans ?_; refine (vlt (x := f 46 2) (y := 12) (by decide) (by rw [h.c0]; exact hj)).trans ?_)); (first | (exact (hr F)) | (refine (vF_g rfl rfl).trans ?_; refine (vF_g rfl rfl).trans ?_; exact (hr F)) | (refine (vF_g rfl rfl).trans ?_; exact (hr F))))
  obtain ⟨w1, w2⟩ := v_takeName (D := D + 1) h.tx h.at_ h.le
  by_cases k1 : nOK T p
  rotate_left
  · rw [oNew_2 k1]
    exact ⟨fun w => absurd w (n01 _), fun _ => ⟨_, s0 _ (fun F => (by (first | (refine (vbnd_0 (w2 k1)).trans ?_) | (refine (vF_g rfl rfl).trans ?_; refine (vF_g rfl rfl).trans ?_; refine (vbnd_0 (w2 k1)).trans ?_) | (refine (vF_g rfl rfl).trans ?_; refine (vbnd_0 (w2 k1)).trans ?_)); (first | (refine (veq (x := 0) (y := 0) rfl).trans ?_) | (refine (vF_g rfl rfl).trans ?_; refine (vF_g rfl rfl).trans ?_; refine (veq (x := 0) (y := 0) rfl).trans ?_) | (refine (vF_g rfl rfl).trans ?_; refine (veq (x := 0) (y := 0) rfl).trans ?_)); (first | (exact rfl) | (refine (vF_g rfl rfl).trans ?_; refine (vF_g rfl rfl).trans ?_; exact rfl) | (refine (vF_g rfl rfl).trans ?_; refine (vF_g rfl rfl).trans ?_; refine (vF_g rfl rfl).trans ?_; exact rfl) | (refine (vF_g rfl rfl).trans ?_; exact rfl)))), er_tk h0⟩⟩
  have c1 := cs_tk h
  have o1 := ok_tk (p := p) (T := T) h0
  have e1 : vM MT0 (D + 4) 50 [vR 446] (tk9 f T p) = some ((0, 0), vJ (pkr (tN T p)), tk9 f T p) := v_name (D := D + 1) (txC_tk h.tx) h.le k1 tkq_3 tkq_4
  have e2 := v_echoNamed46 (D := D + 3) (f := tk9 f T p) (tN_lt k1) c1.c0 c1.c9 (fun j hj => by rw [(c1.nE j hj).2 0 (by decide)]; exact (c1.nE j hj).1)
  rw [fidx_c (h := fun j => E j 0) c 0 (fun i hi => (c1.nE i (by omega)).2 0 (by decide))] at e2
  have s1 : ∀ r, (∀ F, vFn (vM MT0 (D + 4)) nb_X2_takeNewEcho (F + 58) 4 0 [vR 447, vW 3] [] (tk9 f T p) = r) → vM MT0 (D + 5) 17 [vR 447] f = r := fun r hr => s0 _ (fun F => (by (first | (refine (vbnd_0 (w1 k1)).trans ?_) | (refine (vF_g rfl rfl).trans ?_; refine (vF_g rfl rfl).trans ?_; refine (vbnd_0 (w1 k1)).trans ?_) | (refine (vF_g rfl rfl).trans ?_; refine (vbnd_0 (w1 k1)).trans ?_)); (first | (refine (vgt (x := 1) (y := 0) (by decide) (by decide)).trans ?_) | (refine (vF_g rfl rfl).trans ?_; refine (vF_g rfl rfl).trans ?_; refine (vgt (x := 1) (y := 0) (by decide) (by decide)).trans ?_) | (refine (vF_g rfl rfl).trans ?_; refine (vgt (x := 1) (y := 0) (by decide) (by decide)).trans ?_)); (first | (exact (hr F)) | (refine (vF_g rfl rfl).trans ?_; refine (vF_g rfl rfl).trans ?_; exact (hr F)) | (refine (vF_g rfl rfl).trans ?_; exact (hr F)))))
  by_cases k2 : fidx (fun j => E j 0) (pkr (tN T p)) c 0 = 4294967295
  rotate_left
  · rw [oNew_1 k1 k2]
    have hl : fidx (fun j => E j 0) (pkr (tN T p)) c 0 < 4294967296 := by
      rcases fidx_lt (g := fun j => E j 0) (x := pkr (tN T p)) c 0 with q | ⟨_, q, _⟩ <;> omega
    exact ⟨fun w => absurd (show 3 = 0 from w) (by decide), fun _ => ⟨_, s1 _ (fun F => (by (first | (refine (vbnd_0 e1).trans ?_) | (refine (vF_g rfl rfl).trans ?_; refine (vF_g rfl rfl).trans ?_; refine (vbnd_0 e1).trans ?_) | (refine (vF_g rfl rfl).trans ?_; refine (vbnd_0 e1).trans ?_)); (first | (refine (vbnd_0 e2).trans ?_) | (refine (vF_g rfl rfl).trans ?_; refine (vF_g rfl rfl).trans ?_; refine (vbnd_0 e2).trans ?_) | (refine (vF_g rfl rfl).trans ?_; refine (vbnd_0 e2).trans ?_)); (first | (refine (vne hl (by decide) k2).trans ?_) | (refine (vF_g rfl rfl).trans ?_; refine (vF_g rfl rfl).trans ?_; refine (vne hl (by decide) k2).trans ?_) | (refine (vF_g rfl rfl).trans ?_; refine (vne hl (by decide) k2).trans ?_)); (first | (refine (vbnd_0 v_fail9).trans ?_) | (refine (vF_g rfl rfl).trans ?_; refine (vF_g rfl rfl).trans ?_; refine (vbnd_0 v_fail9).trans ?_) | (refine (vF_g rfl rfl).trans ?_; refine (vbnd_0 v_fail9).trans ?_)); (first | (exact rfl) | (refine (vF_g rfl rfl).trans ?_; refine (vF_g rfl rfl).trans ?_; exact rfl) | (refine (vF_g rfl rfl).trans ?_; refine (vF_g rfl rfl).trans ?_; refine (vF_g rfl rfl).trans ?_; exact rfl) | (refine (vF_g rfl rfl).trans ?_; exact rfl)))), er_tk h0⟩⟩
  rw [oNew_0 k1 k2]
  have s2 : ∀ r, (∀ F, vFn (vM MT0 (D + 4)) nb_X2_takeNewEcho (F + 57) 6 0 [vR 447, vW 3] [] (tk9 f T p) = r) → vM MT0 (D + 5) 17 [vR 447] f = r := fun r hr => s1 _ (fun F => (by (first | (refine (vbnd_0 e1).trans ?_) | (refine (vF_g rfl rfl).trans ?_; refine (vF_g rfl rfl).trans ?_; refine (vbnd_0 e1).trans ?_) | (refine (vF_g rfl rfl).trans ?_; refine (vbnd_0 e1).trans ?_)); (first | (refine (vbnd_0 e2).trans ?_) | (refine (vF_g rfl rfl).trans ?_; refine (vF_g rfl rfl).trans ?_; refine (vbnd_0 e2).trans ?_) | (refine (vF_g rfl rfl).trans ?_; refine (vbnd_0 e2).trans ?_)); (first | (refine (veq k2).trans ?_) | (refine (vF_g rfl rfl).trans ?_; refine (vF_g rfl rfl).trans ?_; refine (veq k2).trans ?_) | (refine (vF_g rfl rfl).trans ?_; refine (veq k2).trans ?_)); (first | (exact (hr F)) | (refine (vF_g rfl rfl).trans ?_; refine (vF_g rfl rfl).trans ?_; exact (hr F)) | (refine (vF_g rfl rfl).trans ?_; exact (hr F)))))
  have c2 : VCS n T E V c d (tE T p) (sE c (pkr (tN T p)) (tk9 f T p)) := cs_sE c1 hj
  have o2 : OK0 B (sE c (pkr (tN T p)) (tk9 f T p)) := ok_sE o1 hj
  have x2 : sE c (pkr (tN T p)) (tk9 f T p) (49 + c) 0 = pkr (tN T p) := sE_0
  have es := v_startE (D := D + 3) (x := pkr (tN T p)) (f := tk9 f T p) hj
  generalize sE c (pkr (tN T p)) (tk9 f T p) = g2 at c2 o2 x2 es
  obtain ⟨u1, u2⟩ := v_num (D := D + 1) (lo := 1) (hi := 9) c2 o2 (by decide) (by decide)
  by_cases k3 : nuC T (tE T p) 1 9 = 0
  rotate_left
  · rw [oN_1 k3]
    obtain ⟨g, e3, hg, _⟩ := u2 k3
    exact ⟨fun w => absurd w k3, fun _ => ⟨g, s2 _ (fun F => (neE_6_0 hj c1.c0 e1 es e3 (by (first | (exact rfl) | (refine (vF_g rfl rfl).trans ?_; refine (vF_g rfl rfl).trans ?_; exact rfl) | (refine (vF_g rfl rfl).trans ?_; refine (vF_g rfl rfl).trans ?_; refine (vF_g rfl rfl).trans ?_; exact rfl) | (refine (vF_g rfl rfl).trans ?_; exact rfl))))), hg⟩⟩
  rw [oN_0 k3]
  obtain ⟨g3, e3, c3, o3, v3, f3⟩ := u1 k3
  clear u1 u2
  have s3 : ∀ r, (∀ F, vFn (vM MT0 (D + 4)) nb_X2_takeNewEcho (F + 56) 8 0 [vR 447, vR (49 + c)] [] g3 = r) → vM MT0 (D + 5) 17 [vR 447] f = r := fun r hr => s2 _ (fun F => (neE_6_1 hj c1.c0 e1 es e3 (hr F)))
  have x3_0 : g3 (49 + c) 0 = rwE T p 0 := (f3 _ _ (by omega)).trans x2
  obtain ⟨u1, u2⟩ := v_num (D := D + 1) (lo := 1) (hi := 9) (cs_puE (i := 1) (x := g3 446 5) c3 hj (by decide)) (ok_up o3 (by omega)) (by decide) (by decide)
  by_cases k4 : nuC T (tE T (tE T p)) 1 9 = 0
  rotate_left
  · rw [oN_1 k4]
    obtain ⟨g, e4, hg, _⟩ := u2 k4
    exact ⟨fun w => absurd w k4, fun _ => ⟨g, s3 _ (fun F => (neE_8_0 hj e4 (by (first | (exact rfl) | (refine (vF_g rfl rfl).trans ?_; refine (vF_g rfl rfl).trans ?_; exact rfl) | (refine (vF_g rfl rfl).trans ?_; refine (vF_g rfl rfl).trans ?_; refine (vF_g rfl rfl).trans ?_; exact rfl) | (refine (vF_g rfl rfl).trans ?_; exact rfl))))), hg⟩⟩
  rw [oN_0 k4]
  obtain ⟨g4, e4, c4, o4, v4, f4⟩ := u1 k4
  clear u1 u2
  have s4 : ∀ r, (∀ F, vFn (vM MT0 (D + 4)) nb_X2_takeNewEcho (F + 55) 10 0 [vR 447, vR (49 + c)] [] g4 = r) → vM MT0 (D + 5) 17 [vR 447] f = r := fun r hr => s3 _ (fun F => (neE_8_1 hj e4 (hr F)))
  have x4_0 : g4 (49 + c) 0 = rwE T p 0 := (f4 _ _ (by omega)).trans ((vup_ne (Or.inr (by decide))).trans x3_0)
  have x4_1 : g4 (49 + c) 1 = rwE T p 1 := (f4 _ _ (by omega)).trans (vup_eq.trans v3)
  obtain ⟨u1, u2⟩ := v_num (D := D + 1) (lo := 1) (hi := 99) (cs_puE (i := 2) (x := g4 446 5) c4 hj (by decide)) (ok_up o4 (by omega)) (by decide) (by decide)
  by_cases k5 : nuC T (tE T (tE T (tE T p))) 1 99 = 0
  rotate_left
  · rw [oN_1 k5]
    obtain ⟨g, e5, hg, _⟩ := u2 k5
    exact ⟨fun w => absurd w k5, fun _ => ⟨g, s4 _ (fun F => (neE_10_0 hj e5 (by (first | (exact rfl) | (refine (vF_g rfl rfl).trans ?_; refine (vF_g rfl rfl).trans ?_; exact rfl) | (refine (vF_g rfl rfl).trans ?_; refine (vF_g rfl rfl).trans ?_; refine (vF_g rfl rfl).trans ?_; exact rfl) | (refine (vF_g rfl rfl).trans ?_; exact rfl))))), hg⟩⟩
  rw [oN_0 k5]
  obtain ⟨g5, e5, c5, o5, v5, f5⟩ := u1 k5
  clear u1 u2
  have s5 : ∀ r, (∀ F, vFn (vM MT0 (D + 4)) nb_X2_takeNewEcho (F + 54) 12 0 [vR 447, vR (49 + c)] [] g5 = r) → vM MT0 (D + 5) 17 [vR 447] f = r := fun r hr => s4 _ (fun F => (neE_10_1 hj e5 (hr F)))
  have x5_0 : g5 (49 + c) 0 = rwE T p 0 := (f5 _ _ (by omega)).trans ((vup_ne (Or.inr (by decide))).trans x4_0)
  have x5_1 : g5 (49 + c) 1 = rwE T p 1 := (f5 _ _ (by omega)).trans ((vup_ne (Or.inr (by decide))).trans x4_1)
  have x5_2 : g5 (49 + c) 2 = rwE T p 2 := (f5 _ _ (by omega)).trans (vup_eq.trans v4)
  obtain ⟨u1, u2⟩ := v_num (D := D + 1) (lo := 0) (hi := 9) (cs_puE (i := 3) (x := g5 446 5) c5 hj (by decide)) (ok_up o5 (by omega)) (by decide) (by decide)
  by_cases k6 : nuC T (tE T (tE T (tE T (tE T p)))) 0 9 = 0
  rotate_left
  · rw [oN_1 k6]
    obtain ⟨g, e6, hg, _⟩ := u2 k6
    exact ⟨fun w => absurd w k6, fun _ => ⟨g, s5 _ (fun F => (neE_12_0 hj e6 (by (first | (exact rfl) | (refine (vF_g rfl rfl).trans ?_; refine (vF_g rfl rfl).trans ?_; exact rfl) | (refine (vF_g rfl rfl).trans ?_; refine (vF_g rfl rfl).trans ?_; refine (vF_g rfl rfl).trans ?_; exact rfl) | (refine (vF_g rfl rfl).trans ?_; exact rfl))))), hg⟩⟩
  rw [oN_0 k6]
  obtain ⟨g6, e6, c6, o6, v6, f6⟩ := u1 k6
  clear u1 u2
  have s6 : ∀ r, (∀ F, vFn (vM MT0 (D + 4)) nb_X2_takeNewEcho (F + 53) 14 0 [vR 447, vR (49 + c)] [] g6 = r) → vM MT0 (D + 5) 17 [vR 447] f = r := fun r hr => s5 _ (fun F => (neE_12_1 hj e6 (hr F)))
  have x6_0 : g6 (49 + c) 0 = rwE T p 0 := (f6 _ _ (by omega)).trans ((vup_ne (Or.inr (by decide))).trans x5_0)
  have x6_1 : g6 (49 + c) 1 = rwE T p 1 := (f6 _ _ (by omega)).trans ((vup_ne (Or.inr (by decide))).trans x5_1)
  have x6_2 : g6 (49 + c) 2 = rwE T p 2 := (f6 _ _ (by omega)).trans ((vup_ne (Or.inr (by decide))).trans x5_2)
  have x6_3 : g6 (49 + c) 3 = rwE T p 3 := (f6 _ _ (by omega)).trans (vup_eq.trans v5)
  have c7 := cs_enE c6 hj x6_0 x6_1 x6_2 x6_3 v6 (tN_lt k1)
  have o7 : OK0 B (enE c g6) := ok_enE o6 hj
  obtain ⟨u1, u2⟩ := v_semi (D := D + 1) c7 o7
  by_cases k7 : tK T (tE T (tE T (tE T (tE T (tE T p))))) = 3
  · rw [oS_0 k7]
    obtain ⟨g, e, hg, og, _⟩ := u1 k7
    exact ⟨fun _ => ⟨g, s6 _ (fun F => neE_14 hj (by decide) e), hg, og⟩, fun w => absurd rfl w⟩
  · rw [oS_1 k7]
    obtain ⟨g, e, hg, _⟩ := u2 k7
    exact ⟨fun w => absurd w (n01 _), fun _ => ⟨g, s6 _ (fun F => neE_14 hj (by decide) e), hg⟩⟩
theorem v_newV {D n c d p q : Nat} {T : Nat → Nat} {E V : Nat → Nat → Nat} {f : Vw} (h : VCS n T E V c d p f) (h0 : OK0 B f) (hq : f 446 3 = q) : ((oValley T (fun j => V j 0) d q p).1 = 0 → ∃ g, vM MT0 (D + 5) 18 [vR 447] f = some ((0, 0), vI 1, g) ∧ VCS n T E (ad V d (rwE T p)) c (d + 1) (oValley T (fun j => V j 0) d q p).2 g ∧ OK0 B g) ∧ ((oValley T (fun j => V j 0) d q p).1 ≠ 0 → ∃ g, vM MT0 (D + 5) 18 [vR 447] f = some ((0, 0), vI 0, g) ∧ ER B (oValley T (fun j => V j 0) d q p).1 (oValley T (fun j => V j 0) d q p).2 g) := by
  unfold oValley
  have n01 : ∀ (x : Nat), ¬ ((1, x) : Nat × Nat).1 = 0 := fun x w => absurd (show 1 = 0 from w) (by decide)
  by_cases hc : 8 ≤ d
  · rw [if_pos hc]
    exact ⟨fun w => absurd (show 4 = 0 from w) (by decide), fun _ => ⟨fl 4 f, vM_go rfl rfl rfl rfl fun F hF => (by (first | (refine (vge2 (x := f 46 3) (y := 8) (by rw [h.d0]; have := h.d9; omega) (by rw [h.d0]; exact hc)).trans ?_) | (refine (vF_g rfl rfl).trans ?_; refine (vF_g rfl rfl).trans ?_; refine (vge2 (x := f 46 3) (y := 8) (by rw [h.d0]; have := h.d9; omega) (by rw [h.d0]; exact hc)).trans ?_) | (refine (vF_g rfl rfl).trans ?_; refine (vge2 (x := f 46 3) (y := 8) (by rw [h.d0]; have := h.d9; omega) (by rw [h.d0]; exact hc)).trans ?_)); (first | (refine (vbnd_0 v_fail9).trans ?_) | (refine (vF_g rfl rfl).trans ?_; refine (vF_g rfl rfl).trans ?_; refine (vbnd_0 v_fail9).trans ?_) | (refine (vF_g rfl rfl).trans ?_; refine (vbnd_0 v_fail9).trans ?_)); (first | (exact rfl) | (refine (vF_g rfl rfl).trans ?_; refine (vF_g rfl rfl).trans ?_; exact rfl) | (refine (vF_g rfl rfl).trans ?_; refine (vF_g rfl rfl).trans ?_; refine (vF_g rfl rfl).trans ?_; exact rfl) | (refine (vF_g rfl rfl).trans ?_; exact rfl))), er_fl hq h0⟩⟩
  rw [if_neg hc]
  have hj : d < 8 := by omega
  have s0 : ∀ r, (∀ F, vFn (vM MT0 (D + 4)) nb_X2_takeNewValley (F + 59) 2 0 [vR 447, vW 3] [] f = r) → vM MT0 (D + 5) 18 [vR 447] f = r := fun r hr => vM_go rfl rfl rfl rfl fun F hF => (by (first | (refine (vlt (x := f 46 3) (y := 8) (by decide) (by rw [h.d0]; exact hj)).trans ?_) | (refine (vF_g rfl rfl).trans ?_; refine (vF_g rfl rfl).trans ?_; refine (vlt (x := f 46 3) (y := 8) (by decide) (by rw [h.d0]; exact hj)).trans ?_) | (refine (vF_g rfl rfl).trans ?_; refine (vlt (x := f 46 3) (y := 8) (by decide) (by rw [h.d0]; exact hj)).trans ?_)); (first | (exact (hr F)) | (refine (vF_g rfl rfl).trans ?_; refine (vF_g rfl rfl).trans ?_; exact (hr F)) | (refine (vF_g rfl rfl).trans ?_; exact (hr F))))
  obtain ⟨w1, w2⟩ := v_takeName (D := D + 1) h.tx h.at_ h.le
  by_cases k1 : nOK T p
  rotate_left
  · rw [oNew_2 k1]
    exact ⟨fun w => absurd w (n01 _), fun _ => ⟨_, s0 _ (fun F => (by (first | (refine (vbnd_0 (w2 k1)).trans ?_) | (refine (vF_g rfl rfl).trans ?_; refine (vF_g rfl rfl).trans ?_; refine (vbnd_0 (w2 k1)).trans ?_) | (refine (vF_g rfl rfl).trans ?_; refine (vbnd_0 (w2 k1)).trans ?_)); (first | (refine (veq (x := 0) (y := 0) rfl).trans ?_) | (refine (vF_g rfl rfl).trans ?_; refine (vF_g rfl rfl).trans ?_; refine (veq (x := 0) (y := 0) rfl).trans ?_) | (refine (vF_g rfl rfl).trans ?_; refine (veq (x := 0) (y := 0) rfl).trans ?_)); (first | (exact rfl) | (refine (vF_g rfl rfl).trans ?_; refine (vF_g rfl rfl).trans ?_; exact rfl) | (refine (vF_g rfl rfl).trans ?_; refine (vF_g rfl rfl).trans ?_; refine (vF_g rfl rfl).trans ?_; exact rfl) | (refine (vF_g rfl rfl).trans ?_; exact rfl)))), er_tk h0⟩⟩
  have c1 := cs_tk h
  have o1 := ok_tk (p := p) (T := T) h0
  have e1 : vM MT0 (D + 4) 50 [vR 446] (tk9 f T p) = some ((0, 0), vJ (pkr (tN T p)), tk9 f T p) := v_name (D := D + 1) (txC_tk h.tx) h.le k1 tkq_3 tkq_4
  have e2 := v_valleyNamed46 (D := D + 3) (f := tk9 f T p) (tN_lt k1) c1.d0 c1.d9 (fun j hj => by rw [(c1.nV j hj).2 0 (by decide)]; exact (c1.nV j hj).1)
  rw [fidx_c (h := fun j => V j 0) d 0 (fun i hi => (c1.nV i (by omega)).2 0 (by decide))] at e2
  have s1 : ∀ r, (∀ F, vFn (vM MT0 (D + 4)) nb_X2_takeNewValley (F + 58) 4 0 [vR 447, vW 3] [] (tk9 f T p) = r) → vM MT0 (D + 5) 18 [vR 447] f = r := fun r hr => s0 _ (fun F => (by (first | (refine (vbnd_0 (w1 k1)).trans ?_) | (refine (vF_g rfl rfl).trans ?_; refine (vF_g rfl rfl).trans ?_; refine (vbnd_0 (w1 k1)).trans ?_) | (refine (vF_g rfl rfl).trans ?_; refine (vbnd_0 (w1 k1)).trans ?_)); (first | (refine (vgt (x := 1) (y := 0) (by decide) (by decide)).trans ?_) | (refine (vF_g rfl rfl).trans ?_; refine (vF_g rfl rfl).trans ?_; refine (vgt (x := 1) (y := 0) (by decide) (by decide)).trans ?_) | (refine (vF_g rfl rfl).trans ?_; refine (vgt (x := 1) (y := 0) (by decide) (by decide)).trans ?_)); (first | (exact (hr F)) | (refine (vF_g rfl rfl).trans ?_; refine (vF_g rfl rfl).trans ?_; exact (hr F)) | (refine (vF_g rfl rfl).trans ?_; exact (hr F)))))
  by_cases k2 : fidx (fun j => V j 0) (pkr (tN T p)) d 0 = 4294967295
  rotate_left
  · rw [oNew_1 k1 k2]
    have hl : fidx (fun j => V j 0) (pkr (tN T p)) d 0 < 4294967296 := by
      rcases fidx_lt (g := fun j => V j 0) (x := pkr (tN T p)) d 0 with q | ⟨_, q, _⟩ <;> omega
    exact ⟨fun w => absurd (show 3 = 0 from w) (by decide), fun _ => ⟨_, s1 _ (fun F => (by (first | (refine (vbnd_0 e1).trans ?_) | (refine (vF_g rfl rfl).trans ?_; refine (vF_g rfl rfl).trans ?_; refine (vbnd_0 e1).trans ?_) | (refine (vF_g rfl rfl).trans ?_; refine (vbnd_0 e1).trans ?_)); (first | (refine (vbnd_0 e2).trans ?_) | (refine (vF_g rfl rfl).trans ?_; refine (vF_g rfl rfl).trans ?_; refine (vbnd_0 e2).trans ?_) | (refine (vF_g rfl rfl).trans ?_; refine (vbnd_0 e2).trans ?_)); (first | (refine (vne hl (by decide) k2).trans ?_) | (refine (vF_g rfl rfl).trans ?_; refine (vF_g rfl rfl).trans ?_; refine (vne hl (by decide) k2).trans ?_) | (refine (vF_g rfl rfl).trans ?_; refine (vne hl (by decide) k2).trans ?_)); (first | (refine (vbnd_0 v_fail9).trans ?_) | (refine (vF_g rfl rfl).trans ?_; refine (vF_g rfl rfl).trans ?_; refine (vbnd_0 v_fail9).trans ?_) | (refine (vF_g rfl rfl).trans ?_; refine (vbnd_0 v_fail9).trans ?_)); (first | (exact rfl) | (refine (vF_g rfl rfl).trans ?_; refine (vF_g rfl rfl).trans ?_; exact rfl) | (refine (vF_g rfl rfl).trans ?_; refine (vF_g rfl rfl).trans ?_; refine (vF_g rfl rfl).trans ?_; exact rfl) | (refine (vF_g rfl rfl).trans ?_; exact rfl)))), er_tk h0⟩⟩
  rw [oNew_0 k1 k2]
  have s2 : ∀ r, (∀ F, vFn (vM MT0 (D + 4)) nb_X2_takeNewValley (F + 57) 6 0 [vR 447, vW 3] [] (tk9 f T p) = r) → vM MT0 (D + 5) 18 [vR 447] f = r := fun r hr => s1 _ (fun F => (by (first | (refine (vbnd_0 e1).trans ?_) | (refine (vF_g rfl rfl).trans ?_; refine (vF_g rfl rfl).trans ?_; refine (vbnd_0 e1).trans ?_) | (refine (vF_g rfl rfl).trans ?_; refine (vbnd_0 e1).trans ?_)); (first | (refine (vbnd_0 e2).trans ?_) | (refine (vF_g rfl rfl).trans ?_; refine (vF_g rfl rfl).trans ?_; refine (vbnd_0 e2).trans ?_) | (refine (vF_g rfl rfl).trans ?_; refine (vbnd_0 e2).trans ?_)); (first | (refine (veq k2).trans ?_) | (refine (vF_g rfl rfl).trans ?_; refine (vF_g rfl rfl).trans ?_; refine (veq k2).trans ?_) | (refine (vF_g rfl rfl).trans ?_; refine (veq k2).trans ?_)); (first | (exact (hr F)) | (refine (vF_g rfl rfl).trans ?_; refine (vF_g rfl rfl).trans ?_; exact (hr F)) | (refine (vF_g rfl rfl).trans ?_; exact (hr F)))))
  have c2 : VCS n T E V c d (tE T p) (sV d (pkr (tN T p)) (tk9 f T p)) := cs_sV c1 hj
  have o2 : OK0 B (sV d (pkr (tN T p)) (tk9 f T p)) := ok_sV o1 hj
  have x2 : sV d (pkr (tN T p)) (tk9 f T p) (61 + 3 * d) 0 = pkr (tN T p) := sV_0
  have es := v_startV (D := D + 3) (x := pkr (tN T p)) (f := tk9 f T p) hj
  generalize sV d (pkr (tN T p)) (tk9 f T p) = g2 at c2 o2 x2 es
  obtain ⟨u1, u2⟩ := v_num (D := D + 1) (lo := 1) (hi := 9) c2 o2 (by decide) (by decide)
  by_cases k3 : nuC T (tE T p) 1 9 = 0
  rotate_left
  · rw [oN_1 k3]
    obtain ⟨g, e3, hg, _⟩ := u2 k3
    exact ⟨fun w => absurd w k3, fun _ => ⟨g, s2 _ (fun F => (neV_6_0 hj c1.d0 e1 es e3 (by (first | (exact rfl) | (refine (vF_g rfl rfl).trans ?_; refine (vF_g rfl rfl).trans ?_; exact rfl) | (refine (vF_g rfl rfl).trans ?_; refine (vF_g rfl rfl).trans ?_; refine (vF_g rfl rfl).trans ?_; exact rfl) | (refine (vF_g rfl rfl).trans ?_; exact rfl))))), hg⟩⟩
  rw [oN_0 k3]
  obtain ⟨g3, e3, c3, o3, v3, f3⟩ := u1 k3
  clear u1 u2
  have s3 : ∀ r, (∀ F, vFn (vM MT0 (D + 4)) nb_X2_takeNewValley (F + 56) 8 0 [vR 447, vR (61 + 3 * d)] [] g3 = r) → vM MT0 (D + 5) 18 [vR 447] f = r := fun r hr => s2 _ (fun F => (neV_6_1 hj c1.d0 e1 es e3 (hr F)))
  have x3_0 : g3 (61 + 3 * d) 0 = rwE T p 0 := (f3 _ _ (by omega)).trans x2
  obtain ⟨u1, u2⟩ := v_num (D := D + 1) (lo := 1) (hi := 3) (cs_puV (i := 1) (x := g3 446 5) c3 hj (by decide)) (ok_up o3 (by omega)) (by decide) (by decide)
  by_cases k4 : nuC T (tE T (tE T p)) 1 3 = 0
  rotate_left
  · rw [oN_1 k4]
    obtain ⟨g, e4, hg, _⟩ := u2 k4
    exact ⟨fun w => absurd w k4, fun _ => ⟨g, s3 _ (fun F => (neV_8_0 hj e4 (by (first | (exact rfl) | (refine (vF_g rfl rfl).trans ?_; refine (vF_g rfl rfl).trans ?_; exact rfl) | (refine (vF_g rfl rfl).trans ?_; refine (vF_g rfl rfl).trans ?_; refine (vF_g rfl rfl).trans ?_; exact rfl) | (refine (vF_g rfl rfl).trans ?_; exact rfl))))), hg⟩⟩
  rw [oN_0 k4]
  obtain ⟨g4, e4, c4, o4, v4, f4⟩ := u1 k4
  clear u1 u2
  have s4 : ∀ r, (∀ F, vFn (vM MT0 (D + 4)) nb_X2_takeNewValley (F + 55) 10 0 [vR 447, vR (61 + 3 * d)] [] g4 = r) → vM MT0 (D + 5) 18 [vR 447] f = r := fun r hr => s3 _ (fun F => (neV_8_1 hj e4 (hr F)))
  have x4_0 : g4 (61 + 3 * d) 0 = rwE T p 0 := (f4 _ _ (by omega)).trans ((vup_ne (Or.inr (by decide))).trans x3_0)
  have x4_1 : g4 (61 + 3 * d) 1 = rwE T p 1 := (f4 _ _ (by omega)).trans (vup_eq.trans v3)
  obtain ⟨u1, u2⟩ := v_num (D := D + 1) (lo := 1) (hi := 99) (cs_puV (i := 2) (x := g4 446 5) c4 hj (by decide)) (ok_up o4 (by omega)) (by decide) (by decide)
  by_cases k5 : nuC T (tE T (tE T (tE T p))) 1 99 = 0
  rotate_left
  · rw [oN_1 k5]
    obtain ⟨g, e5, hg, _⟩ := u2 k5
    exact ⟨fun w => absurd w k5, fun _ => ⟨g, s4 _ (fun F => (neV_10_0 hj e5 (by (first | (exact rfl) | (refine (vF_g rfl rfl).trans ?_; refine (vF_g rfl rfl).trans ?_; exact rfl) | (refine (vF_g rfl rfl).trans ?_; refine (vF_g rfl rfl).trans ?_; refine (vF_g rfl rfl).trans ?_; exact rfl) | (refine (vF_g rfl rfl).trans ?_; exact rfl))))), hg⟩⟩
  rw [oN_0 k5]
  obtain ⟨g5, e5, c5, o5, v5, f5⟩ := u1 k5
  clear u1 u2
  have s5 : ∀ r, (∀ F, vFn (vM MT0 (D + 4)) nb_X2_takeNewValley (F + 54) 12 0 [vR 447, vR (61 + 3 * d)] [] g5 = r) → vM MT0 (D + 5) 18 [vR 447] f = r := fun r hr => s4 _ (fun F => (neV_10_1 hj e5 (hr F)))
  have x5_0 : g5 (61 + 3 * d) 0 = rwE T p 0 := (f5 _ _ (by omega)).trans ((vup_ne (Or.inr (by decide))).trans x4_0)
  have x5_1 : g5 (61 + 3 * d) 1 = rwE T p 1 := (f5 _ _ (by omega)).trans ((vup_ne (Or.inr (by decide))).trans x4_1)
  have x5_2 : g5 (61 + 3 * d) 2 = rwE T p 2 := (f5 _ _ (by omega)).trans (vup_eq.trans v4)
  obtain ⟨u1, u2⟩ := v_num (D := D + 1) (lo := 0) (hi := 9999) (cs_puV (i := 3) (x := g5 446 5) c5 hj (by decide)) (ok_up o5 (by omega)) (by decide) (by decide)
  by_cases k6 : nuC T (tE T (tE T (tE T (tE T p)))) 0 9999 = 0
  rotate_left
  · rw [oN_1 k6]
    obtain ⟨g, e6, hg, _⟩ := u2 k6
    exact ⟨fun w => absurd w k6, fun _ => ⟨g, s5 _ (fun F => (neV_12_0 hj e6 (by (first | (exact rfl) | (refine (vF_g rfl rfl).trans ?_; refine (vF_g rfl rfl).trans ?_; exact rfl) | (refine (vF_g rfl rfl).trans ?_; refine (vF_g rfl rfl).trans ?_; refine (vF_g rfl rfl).trans ?_; exact rfl) | (refine (vF_g rfl rfl).trans ?_; exact rfl))))), hg⟩⟩
  rw [oN_0 k6]
  obtain ⟨g6, e6, c6, o6, v6, f6⟩ := u1 k6
  clear u1 u2
  have s6 : ∀ r, (∀ F, vFn (vM MT0 (D + 4)) nb_X2_takeNewValley (F + 53) 14 0 [vR 447, vR (61 + 3 * d)] [] g6 = r) → vM MT0 (D + 5) 18 [vR 447] f = r := fun r hr => s5 _ (fun F => (neV_12_1 hj e6 (hr F)))
  have x6_0 : g6 (61 + 3 * d) 0 = rwE T p 0 := (f6 _ _ (by omega)).trans ((vup_ne (Or.inr (by decide))).trans x5_0)
  have x6_1 : g6 (61 + 3 * d) 1 = rwE T p 1 := (f6 _ _ (by omega)).trans ((vup_ne (Or.inr (by decide))).trans x5_1)
  have x6_2 : g6 (61 + 3 * d) 2 = rwE T p 2 := (f6 _ _ (by omega)).trans ((vup_ne (Or.inr (by decide))).trans x5_2)
  have x6_3 : g6 (61 + 3 * d) 3 = rwE T p 3 := (f6 _ _ (by omega)).trans (vup_eq.trans v5)
  have c7 := cs_enV c6 hj x6_0 x6_1 x6_2 x6_3 v6 (tN_lt k1)
  have o7 : OK0 B (enV d g6) := ok_enV o6 hj
  obtain ⟨u1, u2⟩ := v_semi (D := D + 1) c7 o7
  by_cases k7 : tK T (tE T (tE T (tE T (tE T (tE T p))))) = 3
  · rw [oS_0 k7]
    obtain ⟨g, e, hg, og, _⟩ := u1 k7
    exact ⟨fun _ => ⟨g, s6 _ (fun F => neV_14 hj (by decide) e), hg, og⟩, fun w => absurd rfl w⟩
  · rw [oS_1 k7]
    obtain ⟨g, e, hg, _⟩ := u2 k7
    exact ⟨fun w => absurd w (n01 _), fun _ => ⟨g, s6 _ (fun F => neV_14 hj (by decide) e), hg⟩⟩
