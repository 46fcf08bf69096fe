/-! the reference's text: words, semicolons, names -/
def ERR (e q : Nat) (f : Vw) : Prop := f 452 20 = e ∧ f 452 21 = q ∧ e ≠ 0 ∧ e < 4294967296
theorem err_fl {e q : Nat} {f : Vw} (h : f 452 18 = q) (h1 : e ≠ 0) (h2 : e < 4294967296) : ERR e q (flR e f) := ⟨flR_20, vup_eq.trans h, h1, h2⟩
theorem err_up {e q k i x : Nat} {f : Vw} (h : ERR e q f) (hk : k ≠ 452 ∨ (i ≠ 20 ∧ i ≠ 21)) : ERR e q (vup f k i x) := by
  refine ⟨(vup_ne ?_).trans h.1, (vup_ne ?_).trans h.2.1, h.2.2⟩ <;> omega
/-- a name's row: its length, its letters -/
def nmRow (f : Vw) (a x : Nat) : Prop := ∃ (z : Nat) (U : Nat → Nat), 1 ≤ z ∧ z ≤ 6 ∧ f 453 a = z ∧ (∀ k, k < z → f 453 (a + 1 + k) = U k ∧ 97 ≤ U k ∧ U k ≤ 122) ∧ x = pkr (nmr U 0 z)
/-- where the reference's parser stands -/
def RS (n : Nat) (T : Nat → Nat) (E V : Nat → Nat → Nat) (c d p : Nat) (f : Vw) : Prop := TxR f n T ∧ f 452 17 = p ∧ p ≤ n ∧ (f 452 20 = 0 ∧ f 452 21 = 4294967295) ∧ f 453 0 = c ∧ c ≤ 12 ∧ f 453 1 = d ∧ d ≤ 8 ∧ (∀ j, j < c → nmRow f (23 + 15 * j) (E j 0) ∧ ∀ i, 1 ≤ i → i ≤ 4 → f 453 (29 + 15 * j + i) = E j i) ∧ ∀ j, j < d → nmRow f (203 + 17 * j) (V j 0) ∧ ∀ i, 1 ≤ i → i ≤ 4 → f 453 (209 + 17 * j + i) = V j i
theorem RS.tx {n c d p : Nat} {T : Nat → Nat} {E V : Nat → Nat → Nat} {f : Vw} (h : RS n T E V c d p f) : TxR f n T := h.1
theorem RS.at_ {n c d p : Nat} {T : Nat → Nat} {E V : Nat → Nat → Nat} {f : Vw} (h : RS n T E V c d p f) : f 452 17 = p := h.2.1
theorem RS.le {n c d p : Nat} {T : Nat → Nat} {E V : Nat → Nat → Nat} {f : Vw} (h : RS n T E V c d p f) : p ≤ n := h.2.2.1
theorem RS.er {n c d p : Nat} {T : Nat → Nat} {E V : Nat → Nat → Nat} {f : Vw} (h : RS n T E V c d p f) : f 452 20 = 0 ∧ f 452 21 = 4294967295 := h.2.2.2.1
theorem RS.c0 {n c d p : Nat} {T : Nat → Nat} {E V : Nat → Nat → Nat} {f : Vw} (h : RS n T E V c d p f) : f 453 0 = c := h.2.2.2.2.1
theorem RS.c9 {n c d p : Nat} {T : Nat → Nat} {E V : Nat → Nat → Nat} {f : Vw} (h : RS n T E V c d p f) : c ≤ 12 := h.2.2.2.2.2.1
theorem RS.d0 {n c d p : Nat} {T : Nat → Nat} {E V : Nat → Nat → Nat} {f : Vw} (h : RS n T E V c d p f) : f 453 1 = d := h.2.2.2.2.2.2.1
theorem RS.d9 {n c d p : Nat} {T : Nat → Nat} {E V : Nat → Nat → Nat} {f : Vw} (h : RS n T E V c d p f) : d ≤ 8 := h.2.2.2.2.2.2.2.1
theorem RS.nE {n c d p : Nat} {T : Nat → Nat} {E V : Nat → Nat → Nat} {f : Vw} (h : RS n T E V c d p f) : ∀ j, j < c → nmRow f (23 + 15 * j) (E j 0) ∧ ∀ i, 1 ≤ i → i ≤ 4 → f 453 (29 + 15 * j + i) = E j i := h.2.2.2.2.2.2.2.2.1
theorem RS.nV {n c d p : Nat} {T : Nat → Nat} {E V : Nat → Nat → Nat} {f : Vw} (h : RS n T E V c d p f) : ∀ j, j < d → nmRow f (203 + 17 * j) (V j 0) ∧ ∀ i, 1 ≤ i → i ≤ 4 → f 453 (209 + 17 * j + i) = V j i := h.2.2.2.2.2.2.2.2.2
theorem txR_of {f g : Vw} {n : Nat} {T : Nat → Nat} (h : TxR f n T) (h1 : g 452 16 = f 452 16) (h2 : ∀ i, g 462 i = f 462 i) : TxR g n T := ⟨h.1, h1.trans h.2.1, fun i => by rw [← h.2.2.1 i]; unfold btR; rw [h1, h2], h.2.2.2.1, h.2.2.2.2⟩
theorem nmRow_of {f g : Vw} {a x : Nat} (h : nmRow f a x) (hg : ∀ k, k ≤ 6 → g 453 (a + k) = f 453 (a + k)) : nmRow g a x := by
  obtain ⟨z, U, h1, h2, h3, h4, h5⟩ := h
  refine ⟨z, U, h1, h2, (hg 0 (by decide)).trans h3, fun k hk => ⟨?_, (h4 k hk).2⟩, h5⟩
  have := hg (1 + k) (by omega)
  rw [show a + (1 + k) = a + 1 + k by omega] at this
  exact this.trans (h4 k hk).1
/-- it goes over to a view that says the same of all this -/
theorem rs_of {n c d p p' : Nat} {T : Nat → Nat} {E V : Nat → Nat → Nat} {f g : Vw} (h : RS n T E V c d p f) (h1 : g 452 16 = f 452 16) (h2 : ∀ i, g 462 i = f 462 i) (h3 : g 452 17 = p') (h4 : p' ≤ n) (h5 : g 452 20 = f 452 20) (h6 : g 452 21 = f 452 21) (h7 : g 453 0 = f 453 0) (h8 : g 453 1 = f 453 1) (h9 : ∀ i, 203 ≤ i → i < 203 + 17 * d → g 453 i = f 453 i) (h10 : ∀ i, 23 ≤ i → i < 23 + 15 * c → g 453 i = f 453 i) : RS n T E V c d p' g := by
  have h11 : ∀ i, 203 ≤ i → i < 203 + 17 * d → g 453 i = f 453 i := h9
  refine ⟨txR_of h.tx h1 h2, h3, h4, ⟨h5.trans h.er.1, h6.trans h.er.2⟩, h7.trans h.c0, h.c9, h8.trans h.d0, h.d9, fun j hj => ⟨nmRow_of (h.nE j hj).1 (fun k hk => h10 _ (by omega) (by omega)), fun i hi hi2 => (h10 _ (by omega) (by omega)).trans ((h.nE j hj).2 i hi hi2)⟩, fun j hj => ⟨nmRow_of (h.nV j hj).1 (fun k hk => h11 _ (by omega) (by omega)), fun i hi hi2 => (h11 _ (by omega) (by omega)).trans ((h.nV j hj).2 i hi hi2)⟩⟩
/-- only the parser's own fields may differ -/
theorem rs_fr {n c d p p' : Nat} {T : Nat → Nat} {E V : Nat → Nat → Nat} {f g : Vw} (h : RS n T E V c d p f) (h1 : ∀ a b, a ≠ 452 ∨ (b ≠ 17 ∧ b ≠ 18 ∧ b ≠ 19) → g a b = f a b) (h3 : g 452 17 = p') (h4 : p' ≤ n) : RS n T E V c d p' g := rs_of h (h1 _ _ (by decide)) (fun _ => h1 _ _ (Or.inl (by decide))) h3 h4 (h1 _ _ (by decide)) (h1 _ _ (by decide)) (h1 _ _ (by decide)) (h1 _ _ (by decide)) (fun _ _ _ => h1 _ _ (Or.inl (by decide))) (fun _ _ _ => h1 _ _ (Or.inl (by decide)))
theorem rs_rkv {n c d p : Nat} {T : Nat → Nat} {E V : Nat → Nat → Nat} {f : Vw} (h : RS n T E V c d p f) : RS n T E V c d (tS T p) (rkv f T p) := rs_fr h (fun _ _ w => rkv_o w) rkv_17 (tS_le h.tx.2.2.2.2 h.le).2
theorem rs_past {n c d p x : Nat} {T : Nat → Nat} {E V : Nat → Nat → Nat} {f : Vw} (h : RS n T E V c d p f) (hx : x ≤ n) : RS n T E V c d x (vup f 452 17 x) := rs_fr h (fun _ _ w => vup_ne (by omega)) vup_eq hx
/-! an error stays -/
theorem e_number {D lo hi e q : Nat} {f : Vw} (h : ERR e q f) : vM MT0 (D + 1) 235 [vR 452, vI lo, vI hi] f = some ((0, 0), vI lo, f) := vM_go rfl rfl rfl rfl fun F hF => (by (first | (refine (vne (x := f 452 20) (y := 0) (by rw [h.1]; exact h.2.2.2) (by decide) (by rw [h.1]; exact h.2.2.1)).trans ?_) | (refine (vF_g rfl rfl).trans ?_; refine (vF_g rfl rfl).trans ?_; refine (vne (x := f 452 20) (y := 0) (by rw [h.1]; exact h.2.2.2) (by decide) (by rw [h.1]; exact h.2.2.1)).trans ?_) | (refine (vF_g rfl rfl).trans ?_; refine (vne (x := f 452 20) (y := 0) (by rw [h.1]; exact h.2.2.2) (by decide) (by rw [h.1]; exact h.2.2.1)).trans ?_)); (first | (exact rfl) | (refine (vF_g rfl rfl).trans ?_; refine (vF_g rfl rfl).trans ?_; exact rfl) | (refine (vF_g rfl rfl).trans ?_; refine (vF_g rfl rfl).trans ?_; refine (vF_g rfl rfl).trans ?_; exact rfl) | (refine (vF_g rfl rfl).trans ?_; exact rfl)))
theorem e_semi {D e q : Nat} {f : Vw} (h : ERR e q f) : vM MT0 (D + 1) 234 [vR 452] f = some ((1, 0), vW 3, f) := vM_go rfl rfl rfl rfl fun F hF => (by (first | (refine (vne (x := f 452 20) (y := 0) (by rw [h.1]; exact h.2.2.2) (by decide) (by rw [h.1]; exact h.2.2.1)).trans ?_) | (refine (vF_g rfl rfl).trans ?_; refine (vF_g rfl rfl).trans ?_; refine (vne (x := f 452 20) (y := 0) (by rw [h.1]; exact h.2.2.2) (by decide) (by rw [h.1]; exact h.2.2.1)).trans ?_) | (refine (vF_g rfl rfl).trans ?_; refine (vne (x := f 452 20) (y := 0) (by rw [h.1]; exact h.2.2.2) (by decide) (by rw [h.1]; exact h.2.2.1)).trans ?_)); (first | (exact rfl) | (refine (vF_g rfl rfl).trans ?_; refine (vF_g rfl rfl).trans ?_; exact rfl) | (refine (vF_g rfl rfl).trans ?_; refine (vF_g rfl rfl).trans ?_; refine (vF_g rfl rfl).trans ?_; exact rfl) | (refine (vF_g rfl rfl).trans ?_; exact rfl)))
theorem e_keyword_20 {D e q : Nat} {f : Vw} (h : ERR e q f) : vM MT0 (D + 1) 233 [vR 452, vW 20] f = some ((1, 0), vW 3, f) := vM_go rfl rfl rfl rfl fun F hF => (by (first | (refine (vne (x := f 452 20) (y := 0) (by rw [h.1]; exact h.2.2.2) (by decide) (by rw [h.1]; exact h.2.2.1)).trans ?_) | (refine (vF_g rfl rfl).trans ?_; refine (vF_g rfl rfl).trans ?_; refine (vne (x := f 452 20) (y := 0) (by rw [h.1]; exact h.2.2.2) (by decide) (by rw [h.1]; exact h.2.2.1)).trans ?_) | (refine (vF_g rfl rfl).trans ?_; refine (vne (x := f 452 20) (y := 0) (by rw [h.1]; exact h.2.2.2) (by decide) (by rw [h.1]; exact h.2.2.1)).trans ?_)); (first | (exact rfl) | (refine (vF_g rfl rfl).trans ?_; refine (vF_g rfl rfl).trans ?_; exact rfl) | (refine (vF_g rfl rfl).trans ?_; refine (vF_g rfl rfl).trans ?_; refine (vF_g rfl rfl).trans ?_; exact rfl) | (refine (vF_g rfl rfl).trans ?_; exact rfl)))
theorem e_keyword_21 {D e q : Nat} {f : Vw} (h : ERR e q f) : vM MT0 (D + 1) 233 [vR 452, vW 21] f = some ((1, 0), vW 3, f) := vM_go rfl rfl rfl rfl fun F hF => (by (first | (refine (vne (x := f 452 20) (y := 0) (by rw [h.1]; exact h.2.2.2) (by decide) (by rw [h.1]; exact h.2.2.1)).trans ?_) | (refine (vF_g rfl rfl).trans ?_; refine (vF_g rfl rfl).trans ?_; refine (vne (x := f 452 20) (y := 0) (by rw [h.1]; exact h.2.2.2) (by decide) (by rw [h.1]; exact h.2.2.1)).trans ?_) | (refine (vF_g rfl rfl).trans ?_; refine (vne (x := f 452 20) (y := 0) (by rw [h.1]; exact h.2.2.2) (by decide) (by rw [h.1]; exact h.2.2.1)).trans ?_)); (first | (exact rfl) | (refine (vF_g rfl rfl).trans ?_; refine (vF_g rfl rfl).trans ?_; exact rfl) | (refine (vF_g rfl rfl).trans ?_; refine (vF_g rfl rfl).trans ?_; refine (vF_g rfl rfl).trans ?_; exact rfl) | (refine (vF_g rfl rfl).trans ?_; exact rfl)))
theorem e_keyword_22 {D e q : Nat} {f : Vw} (h : ERR e q f) : vM MT0 (D + 1) 233 [vR 452, vW 22] f = some ((1, 0), vW 3, f) := vM_go rfl rfl rfl rfl fun F hF => (by (first | (refine (vne (x := f 452 20) (y := 0) (by rw [h.1]; exact h.2.2.2) (by decide) (by rw [h.1]; exact h.2.2.1)).trans ?_) | (refine (vF_g rfl rfl).trans ?_; refine (vF_g rfl rfl).trans ?_; refine (vne (x := f 452 20) (y := 0) (by rw [h.1]; exact h.2.2.2) (by decide) (by rw [h.1]; exact h.2.2.1)).trans ?_) | (refine (vF_g rfl rfl).trans ?_; refine (vne (x := f 452 20) (y := 0) (by rw [h.1]; exact h.2.2.2) (by decide) (by rw [h.1]; exact h.2.2.1)).trans ?_)); (first | (exact rfl) | (refine (vF_g rfl rfl).trans ?_; refine (vF_g rfl rfl).trans ?_; exact rfl) | (refine (vF_g rfl rfl).trans ?_; refine (vF_g rfl rfl).trans ?_; refine (vF_g rfl rfl).trans ?_; exact rfl) | (refine (vF_g rfl rfl).trans ?_; exact rfl)))
theorem e_keyword_23 {D e q : Nat} {f : Vw} (h : ERR e q f) : vM MT0 (D + 1) 233 [vR 452, vW 23] f = some ((1, 0), vW 3, f) := vM_go rfl rfl rfl rfl fun F hF => (by (first | (refine (vne (x := f 452 20) (y := 0) (by rw [h.1]; exact h.2.2.2) (by decide) (by rw [h.1]; exact h.2.2.1)).trans ?_) | (refine (vF_g rfl rfl).trans ?_; refine (vF_g rfl rfl).trans ?_; refine (vne (x := f 452 20) (y := 0) (by rw [h.1]; exact h.2.2.2) (by decide) (by rw [h.1]; exact h.2.2.1)).trans ?_) | (refine (vF_g rfl rfl).trans ?_; refine (vne (x := f 452 20) (y := 0) (by rw [h.1]; exact h.2.2.2) (by decide) (by rw [h.1]; exact h.2.2.1)).trans ?_)); (first | (exact rfl) | (refine (vF_g rfl rfl).trans ?_; refine (vF_g rfl rfl).trans ?_; exact rfl) | (refine (vF_g rfl rfl).trans ?_; refine (vF_g rfl rfl).trans ?_; refine (vF_g rfl rfl).trans ?_; exact rfl) | (refine (vF_g rfl rfl).trans ?_; exact rfl)))
theorem e_keyword_24 {D e q : Nat} {f : Vw} (h : ERR e q f) : vM MT0 (D + 1) 233 [vR 452, vW 24] f = some ((1, 0), vW 3, f) := vM_go rfl rfl rfl rfl fun F hF => (by (first | (refine (vne (x := f 452 20) (y := 0) (by rw [h.1]; exact h.2.2.2) (by decide) (by rw [h.1]; exact h.2.2.1)).trans ?_) | (refine (vF_g rfl rfl).trans ?_; refine (vF_g rfl rfl).trans ?_; refine (vne (x := f 452 20) (y := 0) (by rw [h.1]; exact h.2.2.2) (by decide) (by rw [h.1]; exact h.2.2.1)).trans ?_) | (refine (vF_g rfl rfl).trans ?_; refine (vne (x := f 452 20) (y := 0) (by rw [h.1]; exact h.2.2.2) (by decide) (by rw [h.1]; exact h.2.2.1)).trans ?_)); (first | (exact rfl) | (refine (vF_g rfl rfl).trans ?_; refine (vF_g rfl rfl).trans ?_; exact rfl) | (refine (vF_g rfl rfl).trans ?_; refine (vF_g rfl rfl).trans ?_; refine (vF_g rfl rfl).trans ?_; exact rfl) | (refine (vF_g rfl rfl).trans ?_; exact rfl)))
theorem e_keyword_25 {D e q : Nat} {f : Vw} (h : ERR e q f) : vM MT0 (D + 1) 233 [vR 452, vW 25] f = some ((1, 0), vW 3, f) := vM_go rfl rfl rfl rfl fun F hF => (by (first | (refine (vne (x := f 452 20) (y := 0) (by rw [h.1]; exact h.2.2.2) (by decide) (by rw [h.1]; exact h.2.2.1)).trans ?_) | (refine (vF_g rfl rfl).trans ?_; refine (vF_g rfl rfl).trans ?_; refine (vne (x := f 452 20) (y := 0) (by rw [h.1]; exact h.2.2.2) (by decide) (by rw [h.1]; exact h.2.2.1)).trans ?_) | (refine (vF_g rfl rfl).trans ?_; refine (vne (x := f 452 20) (y := 0) (by rw [h.1]; exact h.2.2.2) (by decide) (by rw [h.1]; exact h.2.2.1)).trans ?_)); (first | (exact rfl) | (refine (vF_g rfl rfl).trans ?_; refine (vF_g rfl rfl).trans ?_; exact rfl) | (refine (vF_g rfl rfl).trans ?_; refine (vF_g rfl rfl).trans ?_; refine (vF_g rfl rfl).trans ?_; exact rfl) | (refine (vF_g rfl rfl).trans ?_; exact rfl)))
theorem e_keyword_26 {D e q : Nat} {f : Vw} (h : ERR e q f) : vM MT0 (D + 1) 233 [vR 452, vW 26] f = some ((1, 0), vW 3, f) := vM_go rfl rfl rfl rfl fun F hF => (by (first | (refine (vne (x := f 452 20) (y := 0) (by rw [h.1]; exact h.2.2.2) (by decide) (by rw [h.1]; exact h.2.2.1)).trans ?_) | (refine (vF_g rfl rfl).trans ?_; refine (vF_g rfl rfl).trans ?_; refine (vne (x := f 452 20) (y := 0) (by rw [h.1]; exact h.2.2.2) (by decide) (by rw [h.1]; exact h.2.2.1)).trans ?_) | (refine (vF_g rfl rfl).trans ?_; refine (vne (x := f 452 20) (y := 0) (by rw [h.1]; exact h.2.2.2) (by decide) (by rw [h.1]; exact h.2.2.1)).trans ?_)); (first | (exact rfl) | (refine (vF_g rfl rfl).trans ?_; refine (vF_g rfl rfl).trans ?_; exact rfl) | (refine (vF_g rfl rfl).trans ?_; refine (vF_g rfl rfl).trans ?_; refine (vF_g rfl rfl).trans ?_; exact rfl) | (refine (vF_g rfl rfl).trans ?_; exact rfl)))
theorem e_keyword_27 {D e q : Nat} {f : Vw} (h : ERR e q f) : vM MT0 (D + 1) 233 [vR 452, vW 27] f = some ((1, 0), vW 3, f) := vM_go rfl rfl rfl rfl fun F hF => (by (first | (refine (vne (x := f 452 20) (y := 0) (by rw [h.1]; exact h.2.2.2) (by decide) (by rw [h.1]; exact h.2.2.1)).trans ?_) | (refine (vF_g rfl rfl).trans ?_; refine (vF_g rfl rfl).trans ?_; refine (vne (x := f 452 20) (y := 0) (by rw [h.1]; exact h.2.2.2) (by decide) (by rw [h.1]; exact h.2.2.1)).trans ?_) | (refine (vF_g rfl rfl).trans ?_; refine (vne (x := f 452 20) (y := 0) (by rw [h.1]; exact h.2.2.2) (by decide) (by rw [h.1]; exact h.2.2.1)).trans ?_)); (first | (exact rfl) | (refine (vF_g rfl rfl).trans ?_; refine (vF_g rfl rfl).trans ?_; exact rfl) | (refine (vF_g rfl rfl).trans ?_; refine (vF_g rfl rfl).trans ?_; refine (vF_g rfl rfl).trans ?_; exact rfl) | (refine (vF_g rfl rfl).trans ?_; exact rfl)))
theorem e_keyword_28 {D e q : Nat} {f : Vw} (h : ERR e q f) : vM MT0 (D + 1) 233 [vR 452, vW 28] f = some ((1, 0), vW 3, f) := vM_go rfl rfl rfl rfl fun F hF => (by (first | (refine (vne (x := f 452 20) (y := 0) (by rw [h.1]; exact h.2.2.2) (by decide) (by rw [h.1]; exact h.2.2.1)).trans ?_) | (refine (vF_g rfl rfl).trans ?_; refine (vF_g rfl rfl).trans ?_; refine (vne (x := f 452 20) (y := 0) (by rw [h.1]; exact h.2.2.2) (by decide) (by rw [h.1]; exact h.2.2.1)).trans ?_) | (refine (vF_g rfl rfl).trans ?_; refine (vne (x := f 452 20) (y := 0) (by rw [h.1]; exact h.2.2.2) (by decide) (by rw [h.1]; exact h.2.2.1)).trans ?_)); (first | (exact rfl) | (refine (vF_g rfl rfl).trans ?_; refine (vF_g rfl rfl).trans ?_; exact rfl) | (refine (vF_g rfl rfl).trans ?_; refine (vF_g rfl rfl).trans ?_; refine (vF_g rfl rfl).trans ?_; exact rfl) | (refine (vF_g rfl rfl).trans ?_; exact rfl)))
theorem e_keyword_29 {D e q : Nat} {f : Vw} (h : ERR e q f) : vM MT0 (D + 1) 233 [vR 452, vW 29] f = some ((1, 0), vW 3, f) := vM_go rfl rfl rfl rfl fun F hF => (by (first | (refine (vne (x := f 452 20) (y := 0) (by rw [h.1]; exact h.2.2.2) (by decide) (by rw [h.1]; exact h.2.2.1)).trans ?_) | (refine (vF_g rfl rfl).trans ?_; refine (vF_g rfl rfl).trans ?_; refine (vne (x := f 452 20) (y := 0) (by rw [h.1]; exact h.2.2.2) (by decide) (by rw [h.1]; exact h.2.2.1)).trans ?_) | (refine (vF_g rfl rfl).trans ?_; refine (vne (x := f 452 20) (y := 0) (by rw [h.1]; exact h.2.2.2) (by decide) (by rw [h.1]; exact h.2.2.1)).trans ?_)); (first | (exact rfl) | (refine (vF_g rfl rfl).trans ?_; refine (vF_g rfl rfl).trans ?_; exact rfl) | (refine (vF_g rfl rfl).trans ?_; refine (vF_g rfl rfl).trans ?_; refine (vF_g rfl rfl).trans ?_; exact rfl) | (refine (vF_g rfl rfl).trans ?_; exact rfl)))
theorem e_keyword_30 {D e q : Nat} {f : Vw} (h : ERR e q f) : vM MT0 (D + 1) 233 [vR 452, vW 30] f = some ((1, 0), vW 3, f) := vM_go rfl rfl rfl rfl fun F hF => (by (first | (refine (vne (x := f 452 20) (y := 0) (by rw [h.1]; exact h.2.2.2) (by decide) (by rw [h.1]; exact h.2.2.1)).trans ?_) | (refine (vF_g rfl rfl).trans ?_; refine (vF_g rfl rfl).trans ?_; refine (vne (x := f 452 20) (y := 0) (by rw [h.1]; exact h.2.2.2) (by decide) (by rw [h.1]; exact h.2.2.1)).trans ?_) | (refine (vF_g rfl rfl).trans ?_; refine (vne (x := f 452 20) (y := 0) (by rw [h.1]; exact h.2.2.2) (by decide) (by rw [h.1]; exact h.2.2.1)).trans ?_)); (first | (exact rfl) | (refine (vF_g rfl rfl).trans ?_; refine (vF_g rfl rfl).trans ?_; exact rfl) | (refine (vF_g rfl rfl).trans ?_; refine (vF_g rfl rfl).trans ?_; refine (vF_g rfl rfl).trans ?_; exact rfl) | (refine (vF_g rfl rfl).trans ?_; exact rfl)))
theorem e_keyword {D e q w : Nat} {f : Vw} (h1 : 20 ≤ w) (h2 : w ≤ 30) (h : ERR e q f) : vM MT0 (D + 1) 233 [vR 452, vW w] f = some ((1, 0), vW 3, f) := by
  rcases (show w = 20 ∨ w = 21 ∨ w = 22 ∨ w = 23 ∨ w = 24 ∨ w = 25 ∨ w = 26 ∨ w = 27 ∨ w = 28 ∨ w = 29 ∨ w = 30 by omega) with rfl | rfl | rfl | rfl | rfl | rfl | rfl | rfl | rfl | rfl | rfl
  · exact e_keyword_20 h
  · exact e_keyword_21 h
  · exact e_keyword_22 h
  · exact e_keyword_23 h
  · exact e_keyword_24 h
  · exact e_keyword_25 h
  · exact e_keyword_26 h
  · exact e_keyword_27 h
  · exact e_keyword_28 h
  · exact e_keyword_29 h
  · exact e_keyword_30 h
theorem e_isNumberNext {D e q : Nat} {f : Vw} (h : ERR e q f) : vM MT0 (D + 1) 236 [vR 452] f = some ((0, 0), vI 0, f) := vM_go rfl rfl rfl rfl fun F hF => (by (first | (refine (vne (x := f 452 20) (y := 0) (by rw [h.1]; exact h.2.2.2) (by decide) (by rw [h.1]; exact h.2.2.1)).trans ?_) | (refine (vF_g rfl rfl).trans ?_; refine (vF_g rfl rfl).trans ?_; refine (vne (x := f 452 20) (y := 0) (by rw [h.1]; exact h.2.2.2) (by decide) (by rw [h.1]; exact h.2.2.1)).trans ?_) | (refine (vF_g rfl rfl).trans ?_; refine (vne (x := f 452 20) (y := 0) (by rw [h.1]; exact h.2.2.2) (by decide) (by rw [h.1]; exact h.2.2.1)).trans ?_)); (first | (exact rfl) | (refine (vF_g rfl rfl).trans ?_; refine (vF_g rfl rfl).trans ?_; exact rfl) | (refine (vF_g rfl rfl).trans ?_; refine (vF_g rfl rfl).trans ?_; refine (vF_g rfl rfl).trans ?_; exact rfl) | (refine (vF_g rfl rfl).trans ?_; exact rfl)))
theorem e_isName {D e q : Nat} {f : Vw} (h : ERR e q f) : vM MT0 (D + 1) 237 [vR 452] f = some ((0, 0), vI 0, f) := vM_go rfl rfl rfl rfl fun F hF => (by (first | (refine (vne (x := f 452 20) (y := 0) (by rw [h.1]; exact h.2.2.2) (by decide) (by rw [h.1]; exact h.2.2.1)).trans ?_) | (refine (vF_g rfl rfl).trans ?_; refine (vF_g rfl rfl).trans ?_; refine (vne (x := f 452 20) (y := 0) (by rw [h.1]; exact h.2.2.2) (by decide) (by rw [h.1]; exact h.2.2.1)).trans ?_) | (refine (vF_g rfl rfl).trans ?_; refine (vne (x := f 452 20) (y := 0) (by rw [h.1]; exact h.2.2.2) (by decide) (by rw [h.1]; exact h.2.2.1)).trans ?_)); (first | (exact rfl) | (refine (vF_g rfl rfl).trans ?_; refine (vF_g rfl rfl).trans ?_; exact rfl) | (refine (vF_g rfl rfl).trans ?_; refine (vF_g rfl rfl).trans ?_; refine (vF_g rfl rfl).trans ?_; exact rfl) | (refine (vF_g rfl rfl).trans ?_; exact rfl)))
theorem e_mustBe {D e q b : Nat} {f : Vw} (h : ERR e q f) : vM MT0 (D + 2) 241 [vR 452, vI b] f = some ((0, 0), vI 0, f) := vM_go rfl rfl rfl rfl fun F hF => (by (first | (refine (vbnd_0 (e_isName h)).trans ?_) | (refine (vF_g rfl rfl).trans ?_; refine (vF_g rfl rfl).trans ?_; refine (vbnd_0 (e_isName h)).trans ?_) | (refine (vF_g rfl rfl).trans ?_; refine (vbnd_0 (e_isName h)).trans ?_)); (first | (refine (veq (x := 0) (y := 0) rfl).trans ?_) | (refine (vF_g rfl rfl).trans ?_; refine (vF_g rfl rfl).trans ?_; refine (veq (x := 0) (y := 0) rfl).trans ?_) | (refine (vF_g rfl rfl).trans ?_; refine (veq (x := 0) (y := 0) rfl).trans ?_)); (first | (exact rfl) | (refine (vF_g rfl rfl).trans ?_; refine (vF_g rfl rfl).trans ?_; exact rfl) | (refine (vF_g rfl rfl).trans ?_; refine (vF_g rfl rfl).trans ?_; refine (vF_g rfl rfl).trans ?_; exact rfl) | (refine (vF_g rfl rfl).trans ?_; exact rfl)))
theorem e_newName {D e q a b : Nat} {f : Vw} (h : ERR e q f) : vM MT0 (D + 2) 242 [vR 452, vI a, vI b] f = some ((1, 0), vW 3, f) := vM_go rfl rfl rfl rfl fun F hF => (by (first | (refine (vbnd_0 (e_isName h)).trans ?_) | (refine (vF_g rfl rfl).trans ?_; refine (vF_g rfl rfl).trans ?_; refine (vbnd_0 (e_isName h)).trans ?_) | (refine (vF_g rfl rfl).trans ?_; refine (vbnd_0 (e_isName h)).trans ?_)); (first | (refine (veq (x := 0) (y := 0) rfl).trans ?_) | (refine (vF_g rfl rfl).trans ?_; refine (vF_g rfl rfl).trans ?_; refine (veq (x := 0) (y := 0) rfl).trans ?_) | (refine (vF_g rfl rfl).trans ?_; refine (veq (x := 0) (y := 0) rfl).trans ?_)); (first | (exact rfl) | (refine (vF_g rfl rfl).trans ?_; refine (vF_g rfl rfl).trans ?_; exact rfl) | (refine (vF_g rfl rfl).trans ?_; refine (vF_g rfl rfl).trans ?_; refine (vF_g rfl rfl).trans ?_; exact rfl) | (refine (vF_g rfl rfl).trans ?_; exact rfl)))
/-! words, semicolons -/
theorem tZ_E {T : Nat → Nat} {p : Nat} (h : tK T p = 1) : tS T p + tZ T p = tE T p := by
  have h1 : tE T p = rn T 1 901 (tS T p) := by
    unfold tE
    rw [if_neg (by omega), if_pos (Or.inl h), h]
  have h2 := rn_ge (T := T) (k := 1) 901 (tS T p)
  unfold tZ
  omega
theorem nOK_z {T : Nat → Nat} {p : Nat} : nOK T p ↔ (1 ≤ tZ T p ∧ tZ T p ≤ 6) := by
  by_cases k : tK T p = 1
  · have h1 := tZ_E k
    have h2 := word_1 k
    unfold nOK
    omega
  · have e : tZ T p = 0 := by
      unfold tZ
      have : rn T 1 901 (tS T p) = tS T p := if_neg k
      omega
    unfold nOK
    omega
theorem v_keyword_20 {D n c d p : Nat} {T : Nat → Nat} {E V : Nat → Nat → Nat} {f : Vw} (h : RS n T E V c d p f) : (wOKc T 20 p → ∃ g, vM MT0 (D + 4) 233 [vR 452, vW 20] f = some ((1, 0), vW 3, g) ∧ RS n T E V c d (tE T p) g ∧ ∀ a b, a ≠ 452 → g a b = f a b) ∧ (¬ wOKc T 20 p → ∃ g, vM MT0 (D + 4) 233 [vR 452, vW 20] f = some ((1, 0), vW 3, g) ∧ ERR 1 (tS T p) g ∧ ∀ a b, a ≠ 452 → g a b = f a b) := by
  have e := v_sees (D := D) (w := 20) (by decide) (by decide) h.tx h.at_ h.le h.er.1
  have hr := rs_rkv h
  have e20 : rkv f T p 452 20 = 0 := hr.er.1
  have hz := tZ_le h.tx.2.2.2.2 h.le
  have hn := h.tx.1
  have ep : (rkv f T p 452 18 + rkv f T p 452 19) % 4294967296 = tS T p + tZ T p := by rw [rkv_18, rkv_19, Nat.mod_eq_of_lt (by omega)]
  refine ⟨fun k => ?_, fun k => ?_⟩
  · rw [if_pos ((wOK_c (w := 20) (by decide)).mp k)] at e
    have m : vM MT0 (D + 3) 230 [vR 452, vI 1, vI 1] (rkv f T p) = some ((1, 0), vW 3, rkv f T p) := by
      rw [v_must (Or.inr rfl) (by rw [e20]; decide), if_neg (fun w => by cases w.1)]
    have z : vM MT0 (D + 3) 232 [vR 452] (rkv f T p) = some ((1, 0), vW 3, vup (rkv f T p) 452 17 (tE T p)) := by
      rw [v_goesPast, ep, tZ_E k.1]
    have hE := (tE_ge h.tx.2.2.2.2 h.le).2
    exact ⟨_, vM_go rfl rfl rfl rfl fun F hF => (by (first | (refine (veq h.er.1).trans ?_) | (refine (vF_g rfl rfl).trans ?_; refine (vF_g rfl rfl).trans ?_; refine (veq h.er.1).trans ?_) | (refine (vF_g rfl rfl).trans ?_; refine (veq h.er.1).trans ?_)); (first | (refine (vbnd_0 e).trans ?_) | (refine (vF_g rfl rfl).trans ?_; refine (vF_g rfl rfl).trans ?_; refine (vbnd_0 e).trans ?_) | (refine (vF_g rfl rfl).trans ?_; refine (vbnd_0 e).trans ?_)); (first | (refine (vbnd_1 m).trans ?_) | (refine (vF_g rfl rfl).trans ?_; refine (vF_g rfl rfl).trans ?_; refine (vbnd_1 m).trans ?_) | (refine (vF_g rfl rfl).trans ?_; refine (vbnd_1 m).trans ?_)); (first | (refine (vbnd_1 z).trans ?_) | (refine (vF_g rfl rfl).trans ?_; refine (vF_g rfl rfl).trans ?_; refine (vbnd_1 z).trans ?_) | (refine (vF_g rfl rfl).trans ?_; refine (vbnd_1 z).trans ?_)); (first | (exact rfl) | (refine (vF_g rfl rfl).trans ?_; refine (vF_g rfl rfl).trans ?_; exact rfl) | (refine (vF_g rfl rfl).trans ?_; refine (vF_g rfl rfl).trans ?_; refine (vF_g rfl rfl).trans ?_; exact rfl) | (refine (vF_g rfl rfl).trans ?_; exact rfl))), rs_past hr hE, fun a b w => (vup_ne (Or.inl w)).trans (rkv_o (Or.inl w))⟩
  · rw [if_neg (fun w => k ((wOK_c (w := 20) (by decide)).mpr w))] at e
    have m : vM MT0 (D + 3) 230 [vR 452, vI 0, vI 1] (rkv f T p) = some ((1, 0), vW 3, flR 1 (rkv f T p)) := by
      rw [v_must (Or.inl rfl) (by rw [e20]; decide), if_pos ⟨rfl, e20⟩]
    exact ⟨_, vM_go rfl rfl rfl rfl fun F hF => (by (first | (refine (veq h.er.1).trans ?_) | (refine (vF_g rfl rfl).trans ?_; refine (vF_g rfl rfl).trans ?_; refine (veq h.er.1).trans ?_) | (refine (vF_g rfl rfl).trans ?_; refine (veq h.er.1).trans ?_)); (first | (refine (vbnd_0 e).trans ?_) | (refine (vF_g rfl rfl).trans ?_; refine (vF_g rfl rfl).trans ?_; refine (vbnd_0 e).trans ?_) | (refine (vF_g rfl rfl).trans ?_; refine (vbnd_0 e).trans ?_)); (first | (refine (vbnd_1 m).trans ?_) | (refine (vF_g rfl rfl).trans ?_; refine (vF_g rfl rfl).trans ?_; refine (vbnd_1 m).trans ?_) | (refine (vF_g rfl rfl).trans ?_; refine (vbnd_1 m).trans ?_)); (first | (refine (vbnd_1 v_goesPast).trans ?_) | (refine (vF_g rfl rfl).trans ?_; refine (vF_g rfl rfl).trans ?_; refine (vbnd_1 v_goesPast).trans ?_) | (refine (vF_g rfl rfl).trans ?_; refine (vbnd_1 v_goesPast).trans ?_)); (first | (exact rfl) | (refine (vF_g rfl rfl).trans ?_; refine (vF_g rfl rfl).trans ?_; exact rfl) | (refine (vF_g rfl rfl).trans ?_; refine (vF_g rfl rfl).trans ?_; refine (vF_g rfl rfl).trans ?_; exact rfl) | (refine (vF_g rfl rfl).trans ?_; exact rfl))), err_up (err_fl rkv_18 (by decide) (by decide)) (Or.inr (by decide)), fun a b w => (vup_ne (Or.inl w)).trans ((flR_o (Or.inl w)).trans (rkv_o (Or.inl w)))⟩
theorem v_keyword_21 {D n c d p : Nat} {T : Nat → Nat} {E V : Nat → Nat → Nat} {f : Vw} (h : RS n T E V c d p f) : (wOKc T 21 p → ∃ g, vM MT0 (D + 4) 233 [vR 452, vW 21] f = some ((1, 0), vW 3, g) ∧ RS n T E V c d (tE T p) g ∧ ∀ a b, a ≠ 452 → g a b = f a b) ∧ (¬ wOKc T 21 p → ∃ g, vM MT0 (D + 4) 233 [vR 452, vW 21] f = some ((1, 0), vW 3, g) ∧ ERR 1 (tS T p) g ∧ ∀ a b, a ≠ 452 → g a b = f a b) := by
  have e := v_sees (D := D) (w := 21) (by decide) (by decide) h.tx h.at_ h.le h.er.1
  have hr := rs_rkv h
  have e20 : rkv f T p 452 20 = 0 := hr.er.1
  have hz := tZ_le h.tx.2.2.2.2 h.le
  have hn := h.tx.1
  have ep : (rkv f T p 452 18 + rkv f T p 452 19) % 4294967296 = tS T p + tZ T p := by rw [rkv_18, rkv_19, Nat.mod_eq_of_lt (by omega)]
  refine ⟨fun k => ?_, fun k => ?_⟩
  · rw [if_pos ((wOK_c (w := 21) (by decide)).mp k)] at e
    have m : vM MT0 (D + 3) 230 [vR 452, vI 1, vI 1] (rkv f T p) = some ((1, 0), vW 3, rkv f T p) := by
      rw [v_must (Or.inr rfl) (by rw [e20]; decide), if_neg (fun w => by cases w.1)]
    have z : vM MT0 (D + 3) 232 [vR 452] (rkv f T p) = some ((1, 0), vW 3, vup (rkv f T p) 452 17 (tE T p)) := by
      rw [v_goesPast, ep, tZ_E k.1]
    have hE := (tE_ge h.tx.2.2.2.2 h.le).2
    exact ⟨_, vM_go rfl rfl rfl rfl fun F hF => (by (first | (refine (veq h.er.1).trans ?_) | (refine (vF_g rfl rfl).trans ?_; refine (vF_g rfl rfl).trans ?_; refine (veq h.er.1).trans ?_) | (refine (vF_g rfl rfl).trans ?_; refine (veq h.er.1).trans ?_)); (first | (refine (vbnd_0 e).trans ?_) | (refine (vF_g rfl rfl).trans ?_; refine (vF_g rfl rfl).trans ?_; refine (vbnd_0 e).trans ?_) | (refine (vF_g rfl rfl).trans ?_; refine (vbnd_0 e).trans ?_)); (first | (refine (vbnd_1 m).trans ?_) | (refine (vF_g rfl rfl).trans ?_; refine (vF_g rfl rfl).trans ?_; refine (vbnd_1 m).trans ?_) | (refine (vF_g rfl rfl).trans ?_; refine (vbnd_1 m).trans ?_)); (first | (refine (vbnd_1 z).trans ?_) | (refine (vF_g rfl rfl).trans ?_; refine (vF_g rfl rfl).trans ?_; refine (vbnd_1 z).trans ?_) | (refine (vF_g rfl rfl).trans ?_; refine (vbnd_1 z).trans ?_)); (first | (exact rfl) | (refine (vF_g rfl rfl).trans ?_; refine (vF_g rfl rfl).trans ?_; exact rfl) | (refine (vF_g rfl rfl).trans ?_; refine (vF_g rfl rfl).trans ?_; refine (vF_g rfl rfl).trans ?_; exact rfl) | (refine (vF_g rfl rfl).trans ?_; exact rfl))), rs_past hr hE, fun a b w => (vup_ne (Or.inl w)).trans (rkv_o (Or.inl w))⟩
  · rw [if_neg (fun w => k ((wOK_c (w := 21) (by decide)).mpr w))] at e
    have m : vM MT0 (D + 3) 230 [vR 452, vI 0, vI 1] (rkv f T p) = some ((1, 0), vW 3, flR 1 (rkv f T p)) := by
      rw [v_must (Or.inl rfl) (by rw [e20]; decide), if_pos ⟨rfl, e20⟩]
    exact ⟨_, vM_go rfl rfl rfl rfl fun F hF => (by (first | (refine (veq h.er.1).trans ?_) | (refine (vF_g rfl rfl).trans ?_; refine (vF_g rfl rfl).trans ?_; refine (veq h.er.1).trans ?_) | (refine (vF_g rfl rfl).trans ?_; refine (veq h.er.1).trans ?_)); (first | (refine (vbnd_0 e).trans ?_) | (refine (vF_g rfl rfl).trans ?_; refine (vF_g rfl rfl).trans ?_; refine (vbnd_0 e).trans ?_) | (refine (vF_g rfl rfl).trans ?_; refine (vbnd_0 e).trans ?_)); (first | (refine (vbnd_1 m).trans ?_) | (refine (vF_g rfl rfl).trans ?_; refine (vF_g rfl rfl).trans ?_; refine (vbnd_1 m).trans ?_) | (refine (vF_g rfl rfl).trans ?_; refine (vbnd_1 m).trans ?_)); (first | (refine (vbnd_1 v_goesPast).trans ?_) | (refine (vF_g rfl rfl).trans ?_; refine (vF_g rfl rfl).trans ?_; refine (vbnd_1 v_goesPast).trans ?_) | (refine (vF_g rfl rfl).trans ?_; refine (vbnd_1 v_goesPast).trans ?_)); (first | (exact rfl) | (refine (vF_g rfl rfl).trans ?_; refine (vF_g rfl rfl).trans ?_; exact rfl) | (refine (vF_g rfl rfl).trans ?_; refine (vF_g rfl rfl).trans ?_; refine (vF_g rfl rfl).trans ?_; exact rfl) | (refine (vF_g rfl rfl).trans ?_; exact rfl))), err_up (err_fl rkv_18 (by decide) (by decide)) (Or.inr (by decide)), fun a b w => (vup_ne (Or.inl w)).trans ((flR_o (Or.inl w)).trans (rkv_o (Or.inl w)))⟩
theorem v_keyword_22 {D n c d p : Nat} {T : Nat → Nat} {E V : Nat → Nat → Nat} {f : Vw} (h : RS n T E V c d p f) : (wOKc T 22 p → ∃ g, vM MT0 (D + 4) 233 [vR 452, vW 22] f = some ((1, 0), vW 3, g) ∧ RS n T E V c d (tE T p) g ∧ ∀ a b, a ≠ 452 → g a b = f a b) ∧ (¬ wOKc T 22 p → ∃ g, vM MT0 (D + 4) 233 [vR 452, vW 22] f = some ((1, 0), vW 3, g) ∧ ERR 1 (tS T p) g ∧ ∀ a b, a ≠ 452 → g a b = f a b) := by
  have e := v_sees (D := D) (w := 22) (by decide) (by decide) h.tx h.at_ h.le h.er.1
  have hr := rs_rkv h
  have e20 : rkv f T p 452 20 = 0 := hr.er.1
  have hz := tZ_le h.tx.2.2.2.2 h.le
  have hn := h.tx.1
  have ep : (rkv f T p 452 18 + rkv f T p 452 19) % 4294967296 = tS T p + tZ T p := by rw [rkv_18, rkv_19, Nat.mod_eq_of_lt (by omega)]
  refine ⟨fun k => ?_, fun k => ?_⟩
  · rw [if_pos ((wOK_c (w := 22) (by decide)).mp k)] at e
    have m : vM MT0 (D + 3) 230 [vR 452, vI 1, vI 1] (rkv f T p) = some ((1, 0), vW 3, rkv f T p) := by
      rw [v_must (Or.inr rfl) (by rw [e20]; decide), if_neg (fun w => by cases w.1)]
    have z : vM MT0 (D + 3) 232 [vR 452] (rkv f T p) = some ((1, 0), vW 3, vup (rkv f T p) 452 17 (tE T p)) := by
      rw [v_goesPast, ep, tZ_E k.1]
    have hE := (tE_ge h.tx.2.2.2.2 h.le).2
    exact ⟨_, vM_go rfl rfl rfl rfl fun F hF => (by (first | (refine (veq h.er.1).trans ?_) | (refine (vF_g rfl rfl).trans ?_; refine (vF_g rfl rfl).trans ?_; refine (veq h.er.1).trans ?_) | (refine (vF_g rfl rfl).trans ?_; refine (veq h.er.1).trans ?_)); (first | (refine (vbnd_0 e).trans ?_) | (refine (vF_g rfl rfl).trans ?_; refine (vF_g rfl rfl).trans ?_; refine (vbnd_0 e).trans ?_) | (refine (vF_g rfl rfl).trans ?_; refine (vbnd_0 e).trans ?_)); (first | (refine (vbnd_1 m).trans ?_) | (refine (vF_g rfl rfl).trans ?_; refine (vF_g rfl rfl).trans ?_; refine (vbnd_1 m).trans ?_) | (refine (vF_g rfl rfl).trans ?_; refine (vbnd_1 m).trans ?_)); (first | (refine (vbnd_1 z).trans ?_) | (refine (vF_g rfl rfl).trans ?_; refine (vF_g rfl rfl).trans ?_; refine (vbnd_1 z).trans ?_) | (refine (vF_g rfl rfl).trans ?_; refine (vbnd_1 z).trans ?_)); (first | (exact rfl) | (refine (vF_g rfl rfl).trans ?_; refine (vF_g rfl rfl).trans ?_; exact rfl) | (refine (vF_g rfl rfl).trans ?_; refine (vF_g rfl rfl).trans ?_; refine (vF_g rfl rfl).trans ?_; exact rfl) | (refine (vF_g rfl rfl).trans ?_; exact rfl))), rs_past hr hE, fun a b w => (vup_ne (Or.inl w)).trans (rkv_o (Or.inl w))⟩
  · rw [if_neg (fun w => k ((wOK_c (w := 22) (by decide)).mpr w))] at e
    have m : vM MT0 (D + 3) 230 [vR 452, vI 0, vI 1] (rkv f T p) = some ((1, 0), vW 3, flR 1 (rkv f T p)) := by
      rw [v_must (Or.inl rfl) (by rw [e20]; decide), if_pos ⟨rfl, e20⟩]
    exact ⟨_, vM_go rfl rfl rfl rfl fun F hF => (by (first | (refine (veq h.er.1).trans ?_) | (refine (vF_g rfl rfl).trans ?_; refine (vF_g rfl rfl).trans ?_; refine (veq h.er.1).trans ?_) | (refine (vF_g rfl rfl).trans ?_; refine (veq h.er.1).trans ?_)); (first | (refine (vbnd_0 e).trans ?_) | (refine (vF_g rfl rfl).trans ?_; refine (vF_g rfl rfl).trans ?_; refine (vbnd_0 e).trans ?_) | (refine (vF_g rfl rfl).trans ?_; refine (vbnd_0 e).trans ?_)); (first | (refine (vbnd_1 m).trans ?_) | (refine (vF_g rfl rfl).trans ?_; refine (vF_g rfl rfl).trans ?_; refine (vbnd_1 m).trans ?_) | (refine (vF_g rfl rfl).trans ?_; refine (vbnd_1 m).trans ?_)); (first | (refine (vbnd_1 v_goesPast).trans ?_) | (refine (vF_g rfl rfl).trans ?_; refine (vF_g rfl rfl).trans ?_; refine (vbnd_1 v_goesPast).trans ?_) | (refine (vF_g rfl rfl).trans ?_; refine (vbnd_1 v_goesPast).trans ?_)); (first | (exact rfl) | (refine (vF_g rfl rfl).trans ?_; refine (vF_g rfl rfl).trans ?_; exact rfl) | (refine (vF_g rfl rfl).trans ?_; refine (vF_g rfl rfl).trans ?_; refine (vF_g rfl rfl).trans ?_; exact rfl) | (refine (vF_g rfl rfl).trans ?_; exact rfl))), err_up (err_fl rkv_18 (by decide) (by decide)) (Or.inr (by decide)), fun a b w => (vup_ne (Or.inl w)).trans ((flR_o (Or.inl w)).trans (rkv_o (Or.inl w)))⟩
theorem v_keyword_23 {D n c d p : Nat} {T : Nat → Nat} {E V : Nat → Nat → Nat} {f : Vw} (h : RS n T E V c d p f) : (wOKc T 23 p → ∃ g, vM MT0 (D + 4) 233 [vR 452, vW 23] f = some ((1, 0), vW 3, g) ∧ RS n T E V c d (tE T p) g ∧ ∀ a b, a ≠ 452 → g a b = f a b) ∧ (¬ wOKc T 23 p → ∃ g, vM MT0 (D + 4) 233 [vR 452, vW 23] f = some ((1, 0), vW 3, g) ∧ ERR 1 (tS T p) g ∧ ∀ a b, a ≠ 452 → g a b = f a b) := by
  have e := v_sees (D := D) (w := 23) (by decide) (by decide) h.tx h.at_ h.le h.er.1
  have hr := rs_rkv h
  have e20 : rkv f T p 452 20 = 0 := hr.er.1
  have hz := tZ_le h.tx.2.2.2.2 h.le
  have hn := h.tx.1
  have ep : (rkv f T p 452 18 + rkv f T p 452 19) % 4294967296 = tS T p + tZ T p := by rw [rkv_18, rkv_19, Nat.mod_eq_of_lt (by omega)]
  refine ⟨fun k => ?_, fun k => ?_⟩
  · rw [if_pos ((wOK_c (w := 23) (by decide)).mp k)] at e
    have m : vM MT0 (D + 3) 230 [vR 452, vI 1, vI 1] (rkv f T p) = some ((1, 0), vW 3, rkv f T p) := by
      rw [v_must (Or.inr rfl) (by rw [e20]; decide), if_neg (fun w => by cases w.1)]
    have z : vM MT0 (D + 3) 232 [vR 452] (rkv f T p) = some ((1, 0), vW 3, vup (rkv f T p) 452 17 (tE T p)) := by
      rw [v_goesPast, ep, tZ_E k.1]
    have hE := (tE_ge h.tx.2.2.2.2 h.le).2
    exact ⟨_, vM_go rfl rfl rfl rfl fun F hF => (by (first | (refine (veq h.er.1).trans ?_) | (refine (vF_g rfl rfl).trans ?_; refine (vF_g rfl rfl).trans ?_; refine (veq h.er.1).trans ?_) | (refine (vF_g rfl rfl).trans ?_; refine (veq h.er.1).trans ?_)); (first | (refine (vbnd_0 e).trans ?_) | (refine (vF_g rfl rfl).trans ?_; refine (vF_g rfl rfl).trans ?_; refine (vbnd_0 e).trans ?_) | (refine (vF_g rfl rfl).trans ?_; refine (vbnd_0 e).trans ?_)); (first | (refine (vbnd_1 m).trans ?_) | (refine (vF_g rfl rfl).trans ?_; refine (vF_g rfl rfl).trans ?_; refine (vbnd_1 m).trans ?_) | (refine (vF_g rfl rfl).trans ?_; refine (vbnd_1 m).trans ?_)); (first | (refine (vbnd_1 z).trans ?_) | (refine (vF_g rfl rfl).trans ?_; refine (vF_g rfl rfl).trans ?_; refine (vbnd_1 z).trans ?_) | (refine (vF_g rfl rfl).trans ?_; refine (vbnd_1 z).trans ?_)); (first | (exact rfl) | (refine (vF_g rfl rfl).trans ?_; refine (vF_g rfl rfl).trans ?_; exact rfl) | (refine (vF_g rfl rfl).trans ?_; refine (vF_g rfl rfl).trans ?_; refine (vF_g rfl rfl).trans ?_; exact rfl) | (refine (vF_g rfl rfl).trans ?_; exact rfl))), rs_past hr hE, fun a b w => (vup_ne (Or.inl w)).trans (rkv_o (Or.inl w))⟩
  · rw [if_neg (fun w => k ((wOK_c (w := 23) (by decide)).mpr w))] at e
    have m : vM MT0 (D + 3) 230 [vR 452, vI 0, vI 1] (rkv f T p) = some ((1, 0), vW 3, flR 1 (rkv f T p)) := by
      rw [v_must (Or.inl rfl) (by rw [e20]; decide), if_pos ⟨rfl, e20⟩]
    exact ⟨_, vM_go rfl rfl rfl rfl fun F hF => (by (first | (refine (veq h.er.1).trans ?_) | (refine (vF_g rfl rfl).trans ?_; refine (vF_g rfl rfl).trans ?_; refine (veq h.er.1).trans ?_) | (refine (vF_g rfl rfl).trans ?_; refine (veq h.er.1).trans ?_)); (first | (refine (vbnd_0 e).trans ?_) | (refine (vF_g rfl rfl).trans ?_; refine (vF_g rfl rfl).trans ?_; refine (vbnd_0 e).trans ?_) | (refine (vF_g rfl rfl).trans ?_; refine (vbnd_0 e).trans ?_)); (first | (refine (vbnd_1 m).trans ?_) | (refine (vF_g rfl rfl).trans ?_; refine (vF_g rfl rfl).trans ?_; refine (vbnd_1 m).trans ?_) | (refine (vF_g rfl rfl).trans ?_; refine (vbnd_1 m).trans ?_)); (first | (refine (vbnd_1 v_goesPast).trans ?_) | (refine (vF_g rfl rfl).trans ?_; refine (vF_g rfl rfl).trans ?_; refine (vbnd_1 v_goesPast).trans ?_) | (refine (vF_g rfl rfl).trans ?_; refine (vbnd_1 v_goesPast).trans ?_)); (first | (exact rfl) | (refine (vF_g rfl rfl).trans ?_; refine (vF_g rfl rfl).trans ?_; exact rfl) | (refine (vF_g rfl rfl).trans ?_; refine (vF_g rfl rfl).trans ?_; refine (vF_g rfl rfl).trans ?_; exact rfl) | (refine (vF_g rfl rfl).trans ?_; exact rfl))), err_up (err_fl rkv_18 (by decide) (by decide)) (Or.inr (by decide)), fun a b w => (vup_ne (Or.inl w)).trans ((flR_o (Or.inl w)).trans (rkv_o (Or.inl w)))⟩
theorem v_keyword_24 {D n c d p : Nat} {T : Nat → Nat} {E V : Nat → Nat → Nat} {f : Vw} (h : RS n T E V c d p f) : (wOKc T 24 p → ∃ g, vM MT0 (D + 4) 233 [vR 452, vW 24] f = some ((1, 0), vW 3, g) ∧ RS n T E V c d (tE T p) g ∧ ∀ a b, a ≠ 452 → g a b = f a b) ∧ (¬ wOKc T 24 p → ∃ g, vM MT0 (D + 4) 233 [vR 452, vW 24] f = some ((1, 0), vW 3, g) ∧ ERR 1 (tS T p) g ∧ ∀ a b, a ≠ 452 → g a b = f a b) := by
  have e := v_sees (D := D) (w := 24) (by decide) (by decide) h.tx h.at_ h.le h.er.1
  have hr := rs_rkv h
  have e20 : rkv f T p 452 20 = 0 := hr.er.1
  have hz := tZ_le h.tx.2.2.2.2 h.le
  have hn := h.tx.1
  have ep : (rkv f T p 452 18 + rkv f T p 452 19) % 4294967296 = tS T p + tZ T p := by rw [rkv_18, rkv_19, Nat.mod_eq_of_lt (by omega)]
  refine ⟨fun k => ?_, fun k => ?_⟩
  · rw [if_pos ((wOK_c (w := 24) (by decide)).mp k)] at e
    have m : vM MT0 (D + 3) 230 [vR 452, vI 1, vI 1] (rkv f T p) = some ((1, 0), vW 3, rkv f T p) := by
      rw [v_must (Or.inr rfl) (by rw [e20]; decide), if_neg (fun w => by cases w.1)]
    have z : vM MT0 (D + 3) 232 [vR 452] (rkv f T p) = some ((1, 0), vW 3, vup (rkv f T p) 452 17 (tE T p)) := by
      rw [v_goesPast, ep, tZ_E k.1]
    have hE := (tE_ge h.tx.2.2.2.2 h.le).2
    exact ⟨_, vM_go rfl rfl rfl rfl fun F hF => (by (first | (refine (veq h.er.1).trans ?_) | (refine (vF_g rfl rfl).trans ?_; refine (vF_g rfl rfl).trans ?_; refine (veq h.er.1).trans ?_) | (refine (vF_g rfl rfl).trans ?_; refine (veq h.er.1).trans ?_)); (first | (refine (vbnd_0 e).trans ?_) | (refine (vF_g rfl rfl).trans ?_; refine (vF_g rfl rfl).trans ?_; refine (vbnd_0 e).trans ?_) | (refine (vF_g rfl rfl).trans ?_; refine (vbnd_0 e).trans ?_)); (first | (refine (vbnd_1 m).trans ?_) | (refine (vF_g rfl rfl).trans ?_; refine (vF_g rfl rfl).trans ?_; refine (vbnd_1 m).trans ?_) | (refine (vF_g rfl rfl).trans ?_; refine (vbnd_1 m).trans ?_)); (first | (refine (vbnd_1 z).trans ?_) | (refine (vF_g rfl rfl).trans ?_; refine (vF_g rfl rfl).trans ?_; refine (vbnd_1 z).trans ?_) | (refine (vF_g rfl rfl).trans ?_; refine (vbnd_1 z).trans ?_)); (first | (exact rfl) | (refine (vF_g rfl rfl).trans ?_; refine (vF_g rfl rfl).trans ?_; exact rfl) | (refine (vF_g rfl rfl).trans ?_; refine (vF_g rfl rfl).trans ?_; refine (vF_g rfl rfl).trans ?_; exact rfl) | (refine (vF_g rfl rfl).trans ?_; exact rfl))), rs_past hr hE, fun a b w => (vup_ne (Or.inl w)).trans (rkv_o (Or.inl w))⟩
  · rw [if_neg (fun w => k ((wOK_c (w := 24) (by decide)).mpr w))] at e
    have m : vM MT0 (D + 3) 230 [vR 452, vI 0, vI 1] (rkv f T p) = some ((1, 0), vW 3, flR 1 (rkv f T p)) := by
      rw [v_must (Or.inl rfl) (by rw [e20]; decide), if_pos ⟨rfl, e20⟩]
    exact ⟨_, vM_go rfl rfl rfl rfl fun F hF => (by (first | (refine (veq h.er.1).trans ?_) | (refine (vF_g rfl rfl).trans ?_; refine (vF_g rfl rfl).trans ?_; refine (veq h.er.1).trans ?_) | (refine (vF_g rfl rfl).trans ?_; refine (veq h.er.1).trans ?_)); (first | (refine (vbnd_0 e).trans ?_) | (refine (vF_g rfl rfl).trans ?_; refine (vF_g rfl rfl).trans ?_; refine (vbnd_0 e).trans ?_) | (refine (vF_g rfl rfl).trans ?_; refine (vbnd_0 e).trans ?_)); (first | (refine (vbnd_1 m).trans ?_) | (refine (vF_g rfl rfl).trans ?_; refine (vF_g rfl rfl).trans ?_; refine (vbnd_1 m).trans ?_) | (refine (vF_g rfl rfl).trans ?_; refine (vbnd_1 m).trans ?_)); (first | (refine (vbnd_1 v_goesPast).trans ?_) | (refine (vF_g rfl rfl).trans ?_; refine (vF_g rfl rfl).trans ?_; refine (vbnd_1 v_goesPast).trans ?_) | (refine (vF_g rfl rfl).trans ?_; refine (vbnd_1 v_goesPast).trans ?_)); (first | (exact rfl) | (refine (vF_g rfl rfl).trans ?_; refine (vF_g rfl rfl).trans ?_; exact rfl) | (refine (vF_g rfl rfl).trans ?_; refine (vF_g rfl rfl).trans ?_; refine (vF_g rfl rfl).trans ?_; exact rfl) | (refine (vF_g rfl rfl).trans ?_; exact rfl))), err_up (err_fl rkv_18 (by decide) (by decide)) (Or.inr (by decide)), fun a b w => (vup_ne (Or.inl w)).trans ((flR_o (Or.inl w)).trans (rkv_o (Or.inl w)))⟩
theorem v_keyword_25 {D n c d p : Nat} {T : Nat → Nat} {E V : Nat → Nat → Nat} {f : Vw} (h : RS n T E V c d p f) : (wOKc T 25 p → ∃ g, vM MT0 (D + 4) 233 [vR 452, vW 25] f = some ((1, 0), vW 3, g) ∧ RS n T E V c d (tE T p) g ∧ ∀ a b, a ≠ 452 → g a b = f a b) ∧ (¬ wOKc T 25 p → ∃ g, vM MT0 (D + 4) 233 [vR 452, vW 25] f = some ((1, 0), vW 3, g) ∧ ERR 1 (tS T p) g ∧ ∀ a b, a ≠ 452 → g a b = f a b) := by
  have e := v_sees (D := D) (w := 25) (by decide) (by decide) h.tx h.at_ h.le h.er.1
  have hr := rs_rkv h
  have e20 : rkv f T p 452 20 = 0 := hr.er.1
  have hz := tZ_le h.tx.2.2.2.2 h.le
  have hn := h.tx.1
  have ep : (rkv f T p 452 18 + rkv f T p 452 19) % 4294967296 = tS T p + tZ T p := by rw [rkv_18, rkv_19, Nat.mod_eq_of_lt (by omega)]
  refine ⟨fun k => ?_, fun k => ?_⟩
  · rw [if_pos ((wOK_c (w := 25) (by decide)).mp k)] at e
    have m : vM MT0 (D + 3) 230 [vR 452, vI 1, vI 1] (rkv f T p) = some ((1, 0), vW 3, rkv f T p) := by
      rw [v_must (Or.inr rfl) (by rw [e20]; decide), if_neg (fun w => by cases w.1)]
    have z : vM MT0 (D + 3) 232 [vR 452] (rkv f T p) = some ((1, 0), vW 3, vup (rkv f T p) 452 17 (tE T p)) := by
      rw [v_goesPast, ep, tZ_E k.1]
    have hE := (tE_ge h.tx.2.2.2.2 h.le).2
    exact ⟨_, vM_go rfl rfl rfl rfl fun F hF => (by (first | (refine (veq h.er.1).trans ?_) | (refine (vF_g rfl rfl).trans ?_; refine (vF_g rfl rfl).trans ?_; refine (veq h.er.1).trans ?_) | (refine (vF_g rfl rfl).trans ?_; refine (veq h.er.1).trans ?_)); (first | (refine (vbnd_0 e).trans ?_) | (refine (vF_g rfl rfl).trans ?_; refine (vF_g rfl rfl).trans ?_; refine (vbnd_0 e).trans ?_) | (refine (vF_g rfl rfl).trans ?_; refine (vbnd_0 e).trans ?_)); (first | (refine (vbnd_1 m).trans ?_) | (refine (vF_g rfl rfl).trans ?_; refine (vF_g rfl rfl).trans ?_; refine (vbnd_1 m).trans ?_) | (refine (vF_g rfl rfl).trans ?_; refine (vbnd_1 m).trans ?_)); (first | (refine (vbnd_1 z).trans ?_) | (refine (vF_g rfl rfl).trans ?_; refine (vF_g rfl rfl).trans ?_; refine (vbnd_1 z).trans ?_) | (refine (vF_g rfl rfl).trans ?_; refine (vbnd_1 z).trans ?_)); (first | (exact rfl) | (refine (vF_g rfl rfl).trans ?_; refine (vF_g rfl rfl).trans ?_; exact rfl) | (refine (vF_g rfl rfl).trans ?_; refine (vF_g rfl rfl).trans ?_; refine (vF_g rfl rfl).trans ?_; exact rfl) | (refine (vF_g rfl rfl).trans ?_; exact rfl))), rs_past hr hE, fun a b w => (vup_ne (Or.inl w)).trans (rkv_o (Or.inl w))⟩
  · rw [if_neg (fun w => k ((wOK_c (w := 25) (by decide)).mpr w))] at e
    have m : vM MT0 (D + 3) 230 [vR 452, vI 0, vI 1] (rkv f T p) = some ((1, 0), vW 3, flR 1 (rkv f T p)) := by
      rw [v_must (Or.inl rfl) (by rw [e20]; decide), if_pos ⟨rfl, e20⟩]
    exact ⟨_, vM_go rfl rfl rfl rfl fun F hF => (by (first | (refine (veq h.er.1).trans ?_) | (refine (vF_g rfl rfl).trans ?_; refine (vF_g rfl rfl).trans ?_; refine (veq h.er.1).trans ?_) | (refine (vF_g rfl rfl).trans ?_; refine (veq h.er.1).trans ?_)); (first | (refine (vbnd_0 e).trans ?_) | (refine (vF_g rfl rfl).trans ?_; refine (vF_g rfl rfl).trans ?_; refine (vbnd_0 e).trans ?_) | (refine (vF_g rfl rfl).trans ?_; refine (vbnd_0 e).trans ?_)); (first | (refine (vbnd_1 m).trans ?_) | (refine (vF_g rfl rfl).trans ?_; refine (vF_g rfl rfl).trans ?_; refine (vbnd_1 m).trans ?_) | (refine (vF_g rfl rfl).trans ?_; refine (vbnd_1 m).trans ?_)); (first | (refine (vbnd_1 v_goesPast).trans ?_) | (refine (vF_g rfl rfl).trans ?_; refine (vF_g rfl rfl).trans ?_; refine (vbnd_1 v_goesPast).trans ?_) | (refine (vF_g rfl rfl).trans ?_; refine (vbnd_1 v_goesPast).trans ?_)); (first | (exact rfl) | (refine (vF_g rfl rfl).trans ?_; refine (vF_g rfl rfl).trans ?_; exact rfl) | (refine (vF_g rfl rfl).trans ?_; refine (vF_g rfl rfl).trans ?_; refine (vF_g rfl rfl).trans ?_; exact rfl) | (refine (vF_g rfl rfl).trans ?_; exact rfl))), err_up (err_fl rkv_18 (by decide) (by decide)) (Or.inr (by decide)), fun a b w => (vup_ne (Or.inl w)).trans ((flR_o (Or.inl w)).trans (rkv_o (Or.inl w)))⟩
theorem v_keyword_26 {D n c d p : Nat} {T : Nat → Nat} {E V : Nat → Nat → Nat} {f : Vw} (h : RS n T E V c d p f) : (wOKc T 26 p → ∃ g, vM MT0 (D + 4) 233 [vR 452, vW 26] f = some ((1, 0), vW 3, g) ∧ RS n T E V c d (tE T p) g ∧ ∀ a b, a ≠ 452 → g a b = f a b) ∧ (¬ wOKc T 26 p → ∃ g, vM MT0 (D + 4) 233 [vR 452, vW 26] f = some ((1, 0), vW 3, g) ∧ ERR 1 (tS T p) g ∧ ∀ a b, a ≠ 452 → g a b = f a b) := by
  have e := v_sees (D := D) (w := 26) (by decide) (by decide) h.tx h.at_ h.le h.er.1
  have hr := rs_rkv h
  have e20 : rkv f T p 452 20 = 0 := hr.er.1
  have hz := tZ_le h.tx.2.2.2.2 h.le
  have hn := h.tx.1
  have ep : (rkv f T p 452 18 + rkv f T p 452 19) % 4294967296 = tS T p + tZ T p := by rw [rkv_18, rkv_19, Nat.mod_eq_of_lt (by omega)]
  refine ⟨fun k => ?_, fun k => ?_⟩
  · rw [if_pos ((wOK_c (w := 26) (by decide)).mp k)] at e
    have m : vM MT0 (D + 3) 230 [vR 452, vI 1, vI 1] (rkv f T p) = some ((1, 0), vW 3, rkv f T p) := by
      rw [v_must (Or.inr rfl) (by rw [e20]; decide), if_neg (fun w => by cases w.1)]
    have z : vM MT0 (D + 3) 232 [vR 452] (rkv f T p) = some ((1, 0), vW 3, vup (rkv f T p) 452 17 (tE T p)) := by
      rw [v_goesPast, ep, tZ_E k.1]
    have hE := (tE_ge h.tx.2.2.2.2 h.le).2
    exact ⟨_, vM_go rfl rfl rfl rfl fun F hF => (by (first | (refine (veq h.er.1).trans ?_) | (refine (vF_g rfl rfl).trans ?_; refine (vF_g rfl rfl).trans ?_; refine (veq h.er.1).trans ?_) | (refine (vF_g rfl rfl).trans ?_; refine (veq h.er.1).trans ?_)); (first | (refine (vbnd_0 e).trans ?_) | (refine (vF_g rfl rfl).trans ?_; refine (vF_g rfl rfl).trans ?_; refine (vbnd_0 e).trans ?_) | (refine (vF_g rfl rfl).trans ?_; refine (vbnd_0 e).trans ?_)); (first | (refine (vbnd_1 m).trans ?_) | (refine (vF_g rfl rfl).trans ?_; refine (vF_g rfl rfl).trans ?_; refine (vbnd_1 m).trans ?_) | (refine (vF_g rfl rfl).trans ?_; refine (vbnd_1 m).trans ?_)); (first | (refine (vbnd_1 z).trans ?_) | (refine (vF_g rfl rfl).trans ?_; refine (vF_g rfl rfl).trans ?_; refine (vbnd_1 z).trans ?_) | (refine (vF_g rfl rfl).trans ?_; refine (vbnd_1 z).trans ?_)); (first | (exact rfl) | (refine (vF_g rfl rfl).trans ?_; refine (vF_g rfl rfl).trans ?_; exact rfl) | (refine (vF_g rfl rfl).trans ?_; refine (vF_g rfl rfl).trans ?_; refine (vF_g rfl rfl).trans ?_; exact rfl) | (refine (vF_g rfl rfl).trans ?_; exact rfl))), rs_past hr hE, fun a b w => (vup_ne (Or.inl w)).trans (rkv_o (Or.inl w))⟩
  · rw [if_neg (fun w => k ((wOK_c (w := 26) (by decide)).mpr w))] at e
    have m : vM MT0 (D + 3) 230 [vR 452, vI 0, vI 1] (rkv f T p) = some ((1, 0), vW 3, flR 1 (rkv f T p)) := by
      rw [v_must (Or.inl rfl) (by rw [e20]; decide), if_pos ⟨rfl, e20⟩]
    exact ⟨_, vM_go rfl rfl rfl rfl fun F hF => (by (first | (refine (veq h.er.1).trans ?_) | (refine (vF_g rfl rfl).trans ?_; refine (vF_g rfl rfl).trans ?_; refine (veq h.er.1).trans ?_) | (refine (vF_g rfl rfl).trans ?_; refine (veq h.er.1).trans ?_)); (first | (refine (vbnd_0 e).trans ?_) | (refine (vF_g rfl rfl).trans ?_; refine (vF_g rfl rfl).trans ?_; refine (vbnd_0 e).trans ?_) | (refine (vF_g rfl rfl).trans ?_; refine (vbnd_0 e).trans ?_)); (first | (refine (vbnd_1 m).trans ?_) | (refine (vF_g rfl rfl).trans ?_; refine (vF_g rfl rfl).trans ?_; refine (vbnd_1 m).trans ?_) | (refine (vF_g rfl rfl).trans ?_; refine (vbnd_1 m).trans ?_)); (first | (refine (vbnd_1 v_goesPast).trans ?_) | (refine (vF_g rfl rfl).trans ?_; refine (vF_g rfl rfl).trans ?_; refine (vbnd_1 v_goesPast).trans ?_) | (refine (vF_g rfl rfl).trans ?_; refine (vbnd_1 v_goesPast).trans ?_)); (first | (exact rfl) | (refine (vF_g rfl rfl).trans ?_; refine (vF_g rfl rfl).trans ?_; exact rfl) | (refine (vF_g rfl rfl).trans ?_; refine (vF_g rfl rfl).trans ?_; refine (vF_g rfl rfl).trans ?_; exact rfl) | (refine (vF_g rfl rfl).trans ?_; exact rfl))), err_up (err_fl rkv_18 (by decide) (by decide)) (Or.inr (by decide)), fun a b w => (vup_ne (Or.inl w)).trans ((flR_o (Or.inl w)).trans (rkv_o (Or.inl w)))⟩
theorem v_keyword_27 {D n c d p : Nat} {T : Nat → Nat} {E V : Nat → Nat → Nat} {f : Vw} (h : RS n T E V c d p f) : (wOKc T 27 p → ∃ g, vM MT0 (D + 4) 233 [vR 452, vW 27] f = some ((1, 0), vW 3, g) ∧ RS n T E V c d (tE T p) g ∧ ∀ a b, a ≠ 452 → g a b = f a b) ∧ (¬ wOKc T 27 p → ∃ g, vM MT0 (D + 4) 233 [vR 452, vW 27] f = some ((1, 0), vW 3, g) ∧ ERR 1 (tS T p) g ∧ ∀ a b, a ≠ 452 → g a b = f a b) := by
  have e := v_sees (D := D) (w := 27) (by decide) (by decide) h.tx h.at_ h.le h.er.1
  have hr := rs_rkv h
  have e20 : rkv f T p 452 20 = 0 := hr.er.1
  have hz := tZ_le h.tx.2.2.2.2 h.le
  have hn := h.tx.1
  have ep : (rkv f T p 452 18 + rkv f T p 452 19) % 4294967296 = tS T p + tZ T p := by rw [rkv_18, rkv_19, Nat.mod_eq_of_lt (by omega)]
  refine ⟨fun k => ?_, fun k => ?_⟩
  · rw [if_pos ((wOK_c (w := 27) (by decide)).mp k)] at e
    have m : vM MT0 (D + 3) 230 [vR 452, vI 1, vI 1] (rkv f T p) = some ((1, 0), vW 3, rkv f T p) := by
      rw [v_must (Or.inr rfl) (by rw [e20]; decide), if_neg (fun w => by cases w.1)]
    have z : vM MT0 (D + 3) 232 [vR 452] (rkv f T p) = some ((1, 0), vW 3, vup (rkv f T p) 452 17 (tE T p)) := by
      rw [v_goesPast, ep, tZ_E k.1]
    have hE := (tE_ge h.tx.2.2.2.2 h.le).2
    exact ⟨_, vM_go rfl rfl rfl rfl fun F hF => (by (first | (refine (veq h.er.1).trans ?_) | (refine (vF_g rfl rfl).trans ?_; refine (vF_g rfl rfl).trans ?_; refine (veq h.er.1).trans ?_) | (refine (vF_g rfl rfl).trans ?_; refine (veq h.er.1).trans ?_)); (first | (refine (vbnd_0 e).trans ?_) | (refine (vF_g rfl rfl).trans ?_; refine (vF_g rfl rfl).trans ?_; refine (vbnd_0 e).trans ?_) | (refine (vF_g rfl rfl).trans ?_; refine (vbnd_0 e).trans ?_)); (first | (refine (vbnd_1 m).trans ?_) | (refine (vF_g rfl rfl).trans ?_; refine (vF_g rfl rfl).trans ?_; refine (vbnd_1 m).trans ?_) | (refine (vF_g rfl rfl).trans ?_; refine (vbnd_1 m).trans ?_)); (first | (refine (vbnd_1 z).trans ?_) | (refine (vF_g rfl rfl).trans ?_; refine (vF_g rfl rfl).trans ?_; refine (vbnd_1 z).trans ?_) | (refine (vF_g rfl rfl).trans ?_; refine (vbnd_1 z).trans ?_)); (first | (exact rfl) | (refine (vF_g rfl rfl).trans ?_; refine (vF_g rfl rfl).trans ?_; exact rfl) | (refine (vF_g rfl rfl).trans ?_; refine (vF_g rfl rfl).trans ?_; refine (vF_g rfl rfl).trans ?_; exact rfl) | (refine (vF_g rfl rfl).trans ?_; exact rfl))), rs_past hr hE, fun a b w => (vup_ne (Or.inl w)).trans (rkv_o (Or.inl w))⟩
  · rw [if_neg (fun w => k ((wOK_c (w := 27) (by decide)).mpr w))] at e
    have m : vM MT0 (D + 3) 230 [vR 452, vI 0, vI 1] (rkv f T p) = some ((1, 0), vW 3, flR 1 (rkv f T p)) := by
      rw [v_must (Or.inl rfl) (by rw [e20]; decide), if_pos ⟨rfl, e20⟩]
    exact ⟨_, vM_go rfl rfl rfl rfl fun F hF => (by (first | (refine (veq h.er.1).trans ?_) | (refine (vF_g rfl rfl).trans ?_; refine (vF_g rfl rfl).trans ?_; refine (veq h.er.1).trans ?_) | (refine (vF_g rfl rfl).trans ?_; refine (veq h.er.1).trans ?_)); (first | (refine (vbnd_0 e).trans ?_) | (refine (vF_g rfl rfl).trans ?_; refine (vF_g rfl rfl).trans ?_; refine (vbnd_0 e).trans ?_) | (refine (vF_g rfl rfl).trans ?_; refine (vbnd_0 e).trans ?_)); (first | (refine (vbnd_1 m).trans ?_) | (refine (vF_g rfl rfl).trans ?_; refine (vF_g rfl rfl).trans ?_; refine (vbnd_1 m).trans ?_) | (refine (vF_g rfl rfl).trans ?_; refine (vbnd_1 m).trans ?_)); (first | (refine (vbnd_1 v_goesPast).trans ?_) | (refine (vF_g rfl rfl).trans ?_; refine (vF_g rfl rfl).trans ?_; refine (vbnd_1 v_goesPast).trans ?_) | (refine (vF_g rfl rfl).trans ?_; refine (vbnd_1 v_goesPast).trans ?_)); (first | (exact rfl) | (refine (vF_g rfl rfl).trans ?_; refine (vF_g rfl rfl).trans ?_; exact rfl) | (refine (vF_g rfl rfl).trans ?_; refine (vF_g rfl rfl).trans ?_; refine (vF_g rfl rfl).trans ?_; exact rfl) | (refine (vF_g rfl rfl).trans ?_; exact rfl))), err_up (err_fl rkv_18 (by decide) (by decide)) (Or.inr (by decide)), fun a b w => (vup_ne (Or.inl w)).trans ((flR_o (Or.inl w)).trans (rkv_o (Or.inl w)))⟩
theorem v_keyword_28 {D n c d p : Nat} {T : Nat → Nat} {E V : Nat → Nat → Nat} {f : Vw} (h : RS n T E V c d p f) : (wOKc T 28 p → ∃ g, vM MT0 (D + 4) 233 [vR 452, vW 28] f = some ((1, 0), vW 3, g) ∧ RS n T E V c d (tE T p) g ∧ ∀ a b, a ≠ 452 → g a b = f a b) ∧ (¬ wOKc T 28 p → ∃ g, vM MT0 (D + 4) 233 [vR 452, vW 28] f = some ((1, 0), vW 3, g) ∧ ERR 1 (tS T p) g ∧ ∀ a b, a ≠ 452 → g a b = f a b) := by
  have e := v_sees (D := D) (w := 28) (by decide) (by decide) h.tx h.at_ h.le h.er.1
  have hr := rs_rkv h
  have e20 : rkv f T p 452 20 = 0 := hr.er.1
  have hz := tZ_le h.tx.2.2.2.2 h.le
  have hn := h.tx.1
  have ep : (rkv f T p 452 18 + rkv f T p 452 19) % 4294967296 = tS T p + tZ T p := by rw [rkv_18, rkv_19, Nat.mod_eq_of_lt (by omega)]
  refine ⟨fun k => ?_, fun k => ?_⟩
  · rw [if_pos ((wOK_c (w := 28) (by decide)).mp k)] at e
    have m : vM MT0 (D + 3) 230 [vR 452, vI 1, vI 1] (rkv f T p) = some ((1, 0), vW 3, rkv f T p) := by
      rw [v_must (Or.inr rfl) (by rw [e20]; decide), if_neg (fun w => by cases w.1)]
    have z : vM MT0 (D + 3) 232 [vR 452] (rkv f T p) = some ((1, 0), vW 3, vup (rkv f T p) 452 17 (tE T p)) := by
      rw [v_goesPast, ep, tZ_E k.1]
    have hE := (tE_ge h.tx.2.2.2.2 h.le).2
    exact ⟨_, vM_go rfl rfl rfl rfl fun F hF => (by (first | (refine (veq h.er.1).trans ?_) | (refine (vF_g rfl rfl).trans ?_; refine (vF_g rfl rfl).trans ?_; refine (veq h.er.1).trans ?_) | (refine (vF_g rfl rfl).trans ?_; refine (veq h.er.1).trans ?_)); (first | (refine (vbnd_0 e).trans ?_) | (refine (vF_g rfl rfl).trans ?_; refine (vF_g rfl rfl).trans ?_; refine (vbnd_0 e).trans ?_) | (refine (vF_g rfl rfl).trans ?_; refine (vbnd_0 e).trans ?_)); (first | (refine (vbnd_1 m).trans ?_) | (refine (vF_g rfl rfl).trans ?_; refine (vF_g rfl rfl).trans ?_; refine (vbnd_1 m).trans ?_) | (refine (vF_g rfl rfl).trans ?_; refine (vbnd_1 m).trans ?_)); (first | (refine (vbnd_1 z).trans ?_) | (refine (vF_g rfl rfl).trans ?_; refine (vF_g rfl rfl).trans ?_; refine (vbnd_1 z).trans ?_) | (refine (vF_g rfl rfl).trans ?_; refine (vbnd_1 z).trans ?_)); (first | (exact rfl) | (refine (vF_g rfl rfl).trans ?_; refine (vF_g rfl rfl).trans ?_; exact rfl) | (refine (vF_g rfl rfl).trans ?_; refine (vF_g rfl rfl).trans ?_; refine (vF_g rfl rfl).trans ?_; exact rfl) | (refine (vF_g rfl rfl).trans ?_; exact rfl))), rs_past hr hE, fun a b w => (vup_ne (Or.inl w)).trans (rkv_o (Or.inl w))⟩
  · rw [if_neg (fun w => k ((wOK_c (w := 28) (by decide)).mpr w))] at e
    have m : vM MT0 (D + 3) 230 [vR 452, vI 0, vI 1] (rkv f T p) = some ((1, 0), vW 3, flR 1 (rkv f T p)) := by
      rw [v_must (Or.inl rfl) (by rw [e20]; decide), if_pos ⟨rfl, e20⟩]
    exact ⟨_, vM_go rfl rfl rfl rfl fun F hF => (by (first | (refine (veq h.er.1).trans ?_) | (refine (vF_g rfl rfl).trans ?_; refine (vF_g rfl rfl).trans ?_; refine (veq h.er.1).trans ?_) | (refine (vF_g rfl rfl).trans ?_; refine (veq h.er.1).trans ?_)); (first | (refine (vbnd_0 e).trans ?_) | (refine (vF_g rfl rfl).trans ?_; refine (vF_g rfl rfl).trans ?_; refine (vbnd_0 e).trans ?_) | (refine (vF_g rfl rfl).trans ?_; refine (vbnd_0 e).trans ?_)); (first | (refine (vbnd_1 m).trans ?_) | (refine (vF_g rfl rfl).trans ?_; refine (vF_g rfl rfl).trans ?_; refine (vbnd_1 m).trans ?_) | (refine (vF_g rfl rfl).trans ?_; refine (vbnd_1 m).trans ?_)); (first | (refine (vbnd_1 v_goesPast).trans ?_) | (refine (vF_g rfl rfl).trans ?_; refine (vF_g rfl rfl).trans ?_; refine (vbnd_1 v_goesPast).trans ?_) | (refine (vF_g rfl rfl).trans ?_; refine (vbnd_1 v_goesPast).trans ?_)); (first | (exact rfl) | (refine (vF_g rfl rfl).trans ?_; refine (vF_g rfl rfl).trans ?_; exact rfl) | (refine (vF_g rfl rfl).trans ?_; refine (vF_g rfl rfl).trans ?_; refine (vF_g rfl rfl).trans ?_; exact rfl) | (refine (vF_g rfl rfl).trans ?_; exact rfl))), err_up (err_fl rkv_18 (by decide) (by decide)) (Or.inr (by decide)), fun a b w => (vup_ne (Or.inl w)).trans ((flR_o (Or.inl w)).trans (rkv_o (Or.inl w)))⟩
theorem v_keyword_29 {D n c d p : Nat} {T : Nat → Nat} {E V : Nat → Nat → Nat} {f : Vw} (h : RS n T E V c d p f) : (wOKc T 29 p → ∃ g, vM MT0 (D + 4) 233 [vR 452, vW 29] f = some ((1, 0), vW 3, g) ∧ RS n T E V c d (tE T p) g ∧ ∀ a b, a ≠ 452 → g a b = f a b) ∧ (¬ wOKc T 29 p → ∃ g, vM MT0 (D + 4) 233 [vR 452, vW 29] f = some ((1, 0), vW 3, g) ∧ ERR 1 (tS T p) g ∧ ∀ a b, a ≠ 452 → g a b = f a b) := by
  have e := v_sees (D := D) (w := 29) (by decide) (by decide) h.tx h.at_ h.le h.er.1
  have hr := rs_rkv h
  have e20 : rkv f T p 452 20 = 0 := hr.er.1
  have hz := tZ_le h.tx.2.2.2.2 h.le
  have hn := h.tx.1
  have ep : (rkv f T p 452 18 + rkv f T p 452 19) % 4294967296 = tS T p + tZ T p := by rw [rkv_18, rkv_19, Nat.mod_eq_of_lt (by omega)]
  refine ⟨fun k => ?_, fun k => ?_⟩
  · rw [if_pos ((wOK_c (w := 29) (by decide)).mp k)] at e
    have m : vM MT0 (D + 3) 230 [vR 452, vI 1, vI 1] (rkv f T p) = some ((1, 0), vW 3, rkv f T p) := by
      rw [v_must (Or.inr rfl) (by rw [e20]; decide), if_neg (fun w => by cases w.1)]
    have z : vM MT0 (D + 3) 232 [vR 452] (rkv f T p) = some ((1, 0), vW 3, vup (rkv f T p) 452 17 (tE T p)) := by
      rw [v_goesPast, ep, tZ_E k.1]
    have hE := (tE_ge h.tx.2.2.2.2 h.le).2
    exact ⟨_, vM_go rfl rfl rfl rfl fun F hF => (by (first | (refine (veq h.er.1).trans ?_) | (refine (vF_g rfl rfl).trans ?_; refine (vF_g rfl rfl).trans ?_; refine (veq h.er.1).trans ?_) | (refine (vF_g rfl rfl).trans ?_; refine (veq h.er.1).trans ?_)); (first | (refine (vbnd_0 e).trans ?_) | (refine (vF_g rfl rfl).trans ?_; refine (vF_g rfl rfl).trans ?_; refine (vbnd_0 e).trans ?_) | (refine (vF_g rfl rfl).trans ?_; refine (vbnd_0 e).trans ?_)); (first | (refine (vbnd_1 m).trans ?_) | (refine (vF_g rfl rfl).trans ?_; refine (vF_g rfl rfl).trans ?_; refine (vbnd_1 m).trans ?_) | (refine (vF_g rfl rfl).trans ?_; refine (vbnd_1 m).trans ?_)); (first | (refine (vbnd_1 z).trans ?_) | (refine (vF_g rfl rfl).trans ?_; refine (vF_g rfl rfl).trans ?_; refine (vbnd_1 z).trans ?_) | (refine (vF_g rfl rfl).trans ?_; refine (vbnd_1 z).trans ?_)); (first | (exact rfl) | (refine (vF_g rfl rfl).trans ?_; refine (vF_g rfl rfl).trans ?_; exact rfl) | (refine (vF_g rfl rfl).trans ?_; refine (vF_g rfl rfl).trans ?_; refine (vF_g rfl rfl).trans ?_; exact rfl) | (refine (vF_g rfl rfl).trans ?_; exact rfl))), rs_past hr hE, fun a b w => (vup_ne (Or.inl w)).trans (rkv_o (Or.inl w))⟩
  · rw [if_neg (fun w => k ((wOK_c (w := 29) (by decide)).mpr w))] at e
    have m : vM MT0 (D + 3) 230 [vR 452, vI 0, vI 1] (rkv f T p) = some ((1, 0), vW 3, flR 1 (rkv f T p)) := by
      rw [v_must (Or.inl rfl) (by rw [e20]; decide), if_pos ⟨rfl, e20⟩]
    exact ⟨_, vM_go rfl rfl rfl rfl fun F hF => (by (first | (refine (veq h.er.1).trans ?_) | (refine (vF_g rfl rfl).trans ?_; refine (vF_g rfl rfl).trans ?_; refine (veq h.er.1).trans ?_) | (refine (vF_g rfl rfl).trans ?_; refine (veq h.er.1).trans ?_)); (first | (refine (vbnd_0 e).trans ?_) | (refine (vF_g rfl rfl).trans ?_; refine (vF_g rfl rfl).trans ?_; refine (vbnd_0 e).trans ?_) | (refine (vF_g rfl rfl).trans ?_; refine (vbnd_0 e).trans ?_)); (first | (refine (vbnd_1 m).trans ?_) | (refine (vF_g rfl rfl).trans ?_; refine (vF_g rfl rfl).trans ?_; refine (vbnd_1 m).trans ?_) | (refine (vF_g rfl rfl).trans ?_; refine (vbnd_1 m).trans ?_)); (first | (refine (vbnd_1 v_goesPast).trans ?_) | (refine (vF_g rfl rfl).trans ?_; refine (vF_g rfl rfl).trans ?_; refine (vbnd_1 v_goesPast).trans ?_) | (refine (vF_g rfl rfl).trans ?_; refine (vbnd_1 v_goesPast).trans ?_)); (first | (exact rfl) | (refine (vF_g rfl rfl).trans ?_; refine (vF_g rfl rfl).trans ?_; exact rfl) | (refine (vF_g rfl rfl).trans ?_; refine (vF_g rfl rfl).trans ?_; refine (vF_g rfl rfl).trans ?_; exact rfl) | (refine (vF_g rfl rfl).trans ?_; exact rfl))), err_up (err_fl rkv_18 (by decide) (by decide)) (Or.inr (by decide)), fun a b w => (vup_ne (Or.inl w)).trans ((flR_o (Or.inl w)).trans (rkv_o (Or.inl w)))⟩
theorem v_keyword_30 {D n c d p : Nat} {T : Nat → Nat} {E V : Nat → Nat → Nat} {f : Vw} (h : RS n T E V c d p f) : (wOKc T 30 p → ∃ g, vM MT0 (D + 4) 233 [vR 452, vW 30] f = some ((1, 0), vW 3, g) ∧ RS n T E V c d (tE T p) g ∧ ∀ a b, a ≠ 452 → g a b = f a b) ∧ (¬ wOKc T 30 p → ∃ g, vM MT0 (D + 4) 233 [vR 452, vW 30] f = some ((1, 0), vW 3, g) ∧ ERR 1 (tS T p) g ∧ ∀ a b, a ≠ 452 → g a b = f a b) := by
  have e := v_sees (D := D) (w := 30) (by decide) (by decide) h.tx h.at_ h.le h.er.1
  have hr := rs_rkv h
  have e20 : rkv f T p 452 20 = 0 := hr.er.1
  have hz := tZ_le h.tx.2.2.2.2 h.le
  have hn := h.tx.1
  have ep : (rkv f T p 452 18 + rkv f T p 452 19) % 4294967296 = tS T p + tZ T p := by rw [rkv_18, rkv_19, Nat.mod_eq_of_lt (by omega)]
  refine ⟨fun k => ?_, fun k => ?_⟩
  · rw [if_pos ((wOK_c (w := 30) (by decide)).mp k)] at e
    have m : vM MT0 (D + 3) 230 [vR 452, vI 1, vI 1] (rkv f T p) = some ((1, 0), vW 3, rkv f T p) := by
      rw [v_must (Or.inr rfl) (by rw [e20]; decide), if_neg (fun w => by cases w.1)]
    have z : vM MT0 (D + 3) 232 [vR 452] (rkv f T p) = some ((1, 0), vW 3, vup (rkv f T p) 452 17 (tE T p)) := by
      rw [v_goesPast, ep, tZ_E k.1]
    have hE := (tE_ge h.tx.2.2.2.2 h.le).2
    exact ⟨_, vM_go rfl rfl rfl rfl fun F hF => (by (first | (refine (veq h.er.1).trans ?_) | (refine (vF_g rfl rfl).trans ?_; refine (vF_g rfl rfl).trans ?_; refine (veq h.er.1).trans ?_) | (refine (vF_g rfl rfl).trans ?_; refine (veq h.er.1).trans ?_)); (first | (refine (vbnd_0 e).trans ?_) | (refine (vF_g rfl rfl).trans ?_; refine (vF_g rfl rfl).trans ?_; refine (vbnd_0 e).trans ?_) | (refine (vF_g rfl rfl).trans ?_; refine (vbnd_0 e).trans ?_)); (first | (refine (vbnd_1 m).trans ?_) | (refine (vF_g rfl rfl).trans ?_; refine (vF_g rfl rfl).trans ?_; refine (vbnd_1 m).trans ?_) | (refine (vF_g rfl rfl).trans ?_; refine (vbnd_1 m).trans ?_)); (first | (refine (vbnd_1 z).trans ?_) | (refine (vF_g rfl rfl).trans ?_; refine (vF_g rfl rfl).trans ?_; refine (vbnd_1 z).trans ?_) | (refine (vF_g rfl rfl).trans ?_; refine (vbnd_1 z).trans ?_)); (first | (exact rfl) | (refine (vF_g rfl rfl).trans ?_; refine (vF_g rfl rfl).trans ?_; exact rfl) | (refine (vF_g rfl rfl).trans ?_; refine (vF_g rfl rfl).trans ?_; refine (vF_g rfl rfl).trans ?_; exact rfl) | (refine (vF_g rfl rfl).trans ?_; exact rfl))), rs_past hr hE, fun a b w => (vup_ne (Or.inl w)).trans (rkv_o (Or.inl w))⟩
  · rw [if_neg (fun w => k ((wOK_c (w := 30) (by decide)).mpr w))] at e
    have m : vM MT0 (D + 3) 230 [vR 452, vI 0, vI 1] (rkv f T p) = some ((1, 0), vW 3, flR 1 (rkv f T p)) := by
      rw [v_must (Or.inl rfl) (by rw [e20]; decide), if_pos ⟨rfl, e20⟩]
    exact ⟨_, vM_go rfl rfl rfl rfl fun F hF => (by (first | (refine (veq h.er.1).trans ?_) | (refine (vF_g rfl rfl).trans ?_; refine (vF_g rfl rfl).trans ?_; refine (veq h.er.1).trans ?_) | (refine (vF_g rfl rfl).trans ?_; refine (veq h.er.1).trans ?_)); (first | (refine (vbnd_0 e).trans ?_) | (refine (vF_g rfl rfl).trans ?_; refine (vF_g rfl rfl).trans ?_; refine (vbnd_0 e).trans ?_) | (refine (vF_g rfl rfl).trans ?_; refine (vbnd_0 e).trans ?_)); (first | (refine (vbnd_1 m).trans ?_) | (refine (vF_g rfl rfl).trans ?_; refine (vF_g rfl rfl).trans ?_; refine (vbnd_1 m).trans ?_) | (refine (vF_g rfl rfl).trans ?_; refine (vbnd_1 m).trans ?_)); (first | (refine (vbnd_1 v_goesPast).trans ?_) | (refine (vF_g rfl rfl).trans ?_; refine (vF_g rfl rfl).trans ?_; refine (vbnd_1 v_goesPast).trans ?_) | (refine (vF_g rfl rfl).trans ?_; refine (vbnd_1 v_goesPast).trans ?_)); (first | (exact rfl) | (refine (vF_g rfl rfl).trans ?_; refine (vF_g rfl rfl).trans ?_; exact rfl) | (refine (vF_g rfl rfl).trans ?_; refine (vF_g rfl rfl).trans ?_; refine (vF_g rfl rfl).trans ?_; exact rfl) | (refine (vF_g rfl rfl).trans ?_; exact rfl))), err_up (err_fl rkv_18 (by decide) (by decide)) (Or.inr (by decide)), fun a b w => (vup_ne (Or.inl w)).trans ((flR_o (Or.inl w)).trans (rkv_o (Or.inl w)))⟩
theorem v_keyword {D w n c d p : Nat} {T : Nat → Nat} {E V : Nat → Nat → Nat} {f : Vw} (h : RS n T E V c d p f) (h1 : 20 ≤ w) (h2 : w ≤ 30) (hw : 1 ≤ (wrd w).length) : (wOKc T w p → ∃ g, vM MT0 (D + 4) 233 [vR 452, vW w] f = some ((1, 0), vW 3, g) ∧ RS n T E V c d (tE T p) g ∧ ∀ a b, a ≠ 452 → g a b = f a b) ∧ (¬ wOKc T w p → ∃ g, vM MT0 (D + 4) 233 [vR 452, vW w] f = some ((1, 0), vW 3, g) ∧ ERR 1 (tS T p) g ∧ ∀ a b, a ≠ 452 → g a b = f a b) := by
  rcases (show w = 20 ∨ w = 21 ∨ w = 22 ∨ w = 23 ∨ w = 24 ∨ w = 25 ∨ w = 26 ∨ w = 27 ∨ w = 28 ∨ w = 29 ∨ w = 30 by omega) with rfl | rfl | rfl | rfl | rfl | rfl | rfl | rfl | rfl | rfl | rfl
  · exact v_keyword_20 h
  · exact v_keyword_21 h
  · exact v_keyword_22 h
  · exact v_keyword_23 h
  · exact v_keyword_24 h
  · exact v_keyword_25 h
  · exact v_keyword_26 h
  · exact v_keyword_27 h
  · exact v_keyword_28 h
  · exact v_keyword_29 h
  · exact v_keyword_30 h
theorem v_semiR {D n c d p : Nat} {T : Nat → Nat} {E V : Nat → Nat → Nat} {f : Vw} (h : RS n T E V c d p f) : (tK T p = 3 → ∃ g, vM MT0 (D + 3) 234 [vR 452] f = some ((1, 0), vW 3, g) ∧ RS n T E V c d (tE T p) g ∧ ∀ a b, a ≠ 452 → g a b = f a b) ∧ (tK T p ≠ 3 → ∃ g, vM MT0 (D + 3) 234 [vR 452] f = some ((1, 0), vW 3, g) ∧ ERR 1 (tS T p) g) := by
  have e := v_nextR (D := D) h.tx h.at_ h.le
  have hr := rs_rkv h
  have e20 : rkv f T p 452 20 = 0 := hr.er.1
  have hn := h.tx.1
  have hs := tS_le h.tx.2.2.2.2 h.le
  have hT := h.tx.2.2.2.1 (tS T p)
  have k3 : tK T p = 3 ↔ T (tS T p) = 59 := by
    unfold tK kd9
    constructor
    · intro w
      by_cases a : 97 ≤ T (tS T p) ∧ T (tS T p) ≤ 122
      · rw [if_pos a] at w
        cases w
      · rw [if_neg a] at w
        by_cases b : 48 ≤ T (tS T p) ∧ T (tS T p) ≤ 57
        · rw [if_pos b] at w
          cases w
        · rw [if_neg b] at w
          by_cases q : T (tS T p) = 59
          · exact q
          · rw [if_neg q] at w
            split at w
            · cases w
            · split at w <;> cases w
    · intro w
      rw [w]
      (first | (exact rfl) | (refine (vF_g rfl rfl).trans ?_; refine (vF_g rfl rfl).trans ?_; exact rfl) | (refine (vF_g rfl rfl).trans ?_; refine (vF_g rfl rfl).trans ?_; refine (vF_g rfl rfl).trans ?_; exact rfl) | (refine (vF_g rfl rfl).trans ?_; exact rfl))
  refine ⟨fun k => ?_, fun k => ?_⟩
  · have m : vM MT0 (D + 2) 230 [vR 452, vI 1, vI 1] (rkv f T p) = some ((1, 0), vW 3, rkv f T p) := by
      rw [v_must (Or.inr rfl) (by rw [e20]; decide), if_neg (fun w => by cases w.1)]
    have hE : tE T p = tS T p + 1 := by
      unfold tE
      rw [if_neg (by omega), if_neg (by omega)]
    have hE2 := (tE_ge h.tx.2.2.2.2 h.le).2
    refine ⟨vup (rkv f T p) 452 17 (tE T p), ?_, rs_past hr hE2, fun a b w => (vup_ne (Or.inl w)).trans (rkv_o (Or.inl w))⟩
    refine vM_go rfl rfl rfl rfl fun F hF => ?_
    (first | (refine (veq h.er.1).trans ?_) | (refine (vF_g rfl rfl).trans ?_; refine (vF_g rfl rfl).trans ?_; refine (veq h.er.1).trans ?_) | (refine (vF_g rfl rfl).trans ?_; refine (veq h.er.1).trans ?_))
    (first | (refine (vbnd_0 e).trans ?_) | (refine (vF_g rfl rfl).trans ?_; refine (vF_g rfl rfl).trans ?_; refine (vbnd_0 e).trans ?_) | (refine (vF_g rfl rfl).trans ?_; refine (vbnd_0 e).trans ?_))
    (first | (refine (veq (k3.mp k)).trans ?_) | (refine (vF_g rfl rfl).trans ?_; refine (vF_g rfl rfl).trans ?_; refine (veq (k3.mp k)).trans ?_) | (refine (vF_g rfl rfl).trans ?_; refine (veq (k3.mp k)).trans ?_))
    (first | (refine (vbnd_1 m).trans ?_) | (refine (vF_g rfl rfl).trans ?_; refine (vF_g rfl rfl).trans ?_; refine (vbnd_1 m).trans ?_) | (refine (vF_g rfl rfl).trans ?_; refine (vbnd_1 m).trans ?_))
    (first | (refine Eq.trans (b := some ((1, 0), vW 3, vup (rkv f T p) 452 17 ((rkv f T p 452 17 + 1) % 4294967296))) rfl ?_) | (refine (vF_g rfl rfl).trans ?_; refine (vF_g rfl rfl).trans ?_; refine Eq.trans (b := some ((1, 0), vW 3, vup (rkv f T p) 452 17 ((rkv f T p 452 17 + 1) % 4294967296))) rfl ?_) | (refine (vF_g rfl rfl).trans ?_; refine Eq.trans (b := some ((1, 0), vW 3, vup (rkv f T p) 452 17 ((rkv f T p 452 17 + 1) % 4294967296))) rfl ?_))
    rw [rkv_17, hE, Nat.mod_eq_of_lt (show tS T p + 1 < 4294967296 by omega)]
  · have m : vM MT0 (D + 2) 230 [vR 452, vI 0, vI 1] (rkv f T p) = some ((1, 0), vW 3, flR 1 (rkv f T p)) := by
      rw [v_must (Or.inl rfl) (by rw [e20]; decide), if_pos ⟨rfl, e20⟩]
    exact ⟨_, vM_go rfl rfl rfl rfl fun F hF => (by (first | (refine (veq h.er.1).trans ?_) | (refine (vF_g rfl rfl).trans ?_; refine (vF_g rfl rfl).trans ?_; refine (veq h.er.1).trans ?_) | (refine (vF_g rfl rfl).trans ?_; refine (veq h.er.1).trans ?_)); (first | (refine (vbnd_0 e).trans ?_) | (refine (vF_g rfl rfl).trans ?_; refine (vF_g rfl rfl).trans ?_; refine (vbnd_0 e).trans ?_) | (refine (vF_g rfl rfl).trans ?_; refine (vbnd_0 e).trans ?_)); (first | (refine (vne (x := T (tS T p)) (y := 59) (by omega) (by decide) (fun w => k (k3.mpr w))).trans ?_) | (refine (vF_g rfl rfl).trans ?_; refine (vF_g rfl rfl).trans ?_; refine (vne (x := T (tS T p)) (y := 59) (by omega) (by decide) (fun w => k (k3.mpr w))).trans ?_) | (refine (vF_g rfl rfl).trans ?_; refine (vne (x := T (tS T p)) (y := 59) (by omega) (by decide) (fun w => k (k3.mpr w))).trans ?_)); (first | (refine (vbnd_1 m).trans ?_) | (refine (vF_g rfl rfl).trans ?_; refine (vF_g rfl rfl).trans ?_; refine (vbnd_1 m).trans ?_) | (refine (vF_g rfl rfl).trans ?_; refine (vbnd_1 m).trans ?_)); (first | (exact rfl) | (refine (vF_g rfl rfl).trans ?_; refine (vF_g rfl rfl).trans ?_; exact rfl) | (refine (vF_g rfl rfl).trans ?_; refine (vF_g rfl rfl).trans ?_; refine (vF_g rfl rfl).trans ?_; exact rfl) | (refine (vF_g rfl rfl).trans ?_; exact rfl))), err_up (err_fl rkv_18 (by decide) (by decide)) (Or.inr (by decide))⟩
/-! numbers -/
theorem nE_is {T : Nat → Nat} {p : Nat} (h : tK T p = 2) : nE T p = tE T p ∧ nV T p = tV T p := by
  have h1 : tE T p = rn T 2 901 (tS T p) := by
    unfold tE
    rw [if_neg (by omega), if_pos (Or.inr h), h]
  have h2 : tV T p = vfold T 2 901 (tS T p) 0 := by
    unfold tV
    rw [if_neg (by omega), if_pos (Or.inr h), h]
  exact ⟨h1.symm, h2.symm⟩
theorem v_numR {D lo hi n c d p : Nat} {T : Nat → Nat} {E V : Nat → Nat → Nat} {f : Vw} (h : RS n T E V c d p f) (hlo : lo < 10000) (hhi : hi < 10000) : (nuC T p lo hi = 0 → ∃ g, vM MT0 (D + 3) 235 [vR 452, vI lo, vI hi] f = some ((0, 0), vI (tV T p), g) ∧ RS n T E V c d (tE T p) g ∧ (∀ a b, a ≠ 452 → g a b = f a b) ∧ tV T p < 10000) ∧ (nuC T p lo hi ≠ 0 → ∃ g, vM MT0 (D + 3) 235 [vR 452, vI lo, vI hi] f = some ((0, 0), vI lo, g) ∧ ERR (nuC T p lo hi) (tS T p) g) := by
  have e := v_number (D := D) h.tx h.at_ h.le h.er.1 hlo hhi
  have hr := rs_rkv h
  have hE := (tE_ge h.tx.2.2.2.2 h.le).2
  have hs := tS_le h.tx.2.2.2.2 h.le
  unfold nuR at e
  by_cases c1 : tK T p = 2
  · obtain ⟨q1, q2⟩ := nE_is c1
    rw [if_pos (show kd9 (T (tS T p)) = 2 from c1), q1, q2] at e
    by_cases c2 : tE T p - tS T p ≤ 4
    · rw [if_pos c2] at e
      by_cases c3 : lo ≤ tV T p ∧ tV T p ≤ hi
      · rw [if_pos c3] at e
        have e0 : nuC T p lo hi = 0 := (if_pos ⟨c1, c2⟩).trans (if_pos c3)
        exact ⟨fun _ => ⟨_, e, rs_past hr hE, fun a b w => (vup_ne (Or.inl w)).trans (rkv_o (Or.inl w)), by omega⟩, fun w => absurd e0 w⟩
      · rw [if_neg c3] at e
        have e0 : nuC T p lo hi = 2 := (if_pos ⟨c1, c2⟩).trans (if_neg c3)
        rw [e0]
        exact ⟨fun w => (by cases w), fun _ => ⟨_, e, err_fl ((vup_ne (Or.inr (by decide))).trans rkv_18) (by decide) (by decide)⟩⟩
    · rw [if_neg c2] at e
      have e0 : nuC T p lo hi = 1 := if_neg (fun w => c2 w.2)
      rw [e0]
      exact ⟨fun w => (by cases w), fun _ => ⟨_, e, err_fl ((vup_ne (Or.inr (by decide))).trans rkv_18) (by decide) (by decide)⟩⟩
  · rw [if_neg (show ¬ kd9 (T (tS T p)) = 2 from c1)] at e
    have e0 : nuC T p lo hi = 1 := if_neg (fun w => c1 w.1)
    rw [e0]
    exact ⟨fun w => (by cases w), fun _ => ⟨_, e, err_fl rkv_18 (by decide) (by decide)⟩⟩
theorem v_isNumberNext {D n c d p : Nat} {T : Nat → Nat} {E V : Nat → Nat → Nat} {f : Vw} (h : RS n T E V c d p f) : vM MT0 (D + 3) 236 [vR 452] f = some ((0, 0), vI (if tK T p = 2 then 1 else 0), rkv f T p) := by
  have e := v_nextR (D := D) h.tx h.at_ h.le
  refine vM_go rfl rfl rfl rfl fun F hF => ?_
  (first | (refine (veq h.er.1).trans ?_) | (refine (vF_g rfl rfl).trans ?_; refine (vF_g rfl rfl).trans ?_; refine (veq h.er.1).trans ?_) | (refine (vF_g rfl rfl).trans ?_; refine (veq h.er.1).trans ?_))
  (first | (refine (vbnd_0 e).trans ?_) | (refine (vF_g rfl rfl).trans ?_; refine (vF_g rfl rfl).trans ?_; refine (vbnd_0 e).trans ?_) | (refine (vF_g rfl rfl).trans ?_; refine (vbnd_0 e).trans ?_))
  (first | (refine (vbnd_0 (v_in (x := toNL (nI (T (tS T p))).toInt64) (a := 48) (b := 57) (f := rkv f T p))).trans ?_) | (refine (vF_g rfl rfl).trans ?_; refine (vF_g rfl rfl).trans ?_; refine (vbnd_0 (v_in (x := toNL (nI (T (tS T p))).toInt64) (a := 48) (b := 57) (f := rkv f T p))).trans ?_) | (refine (vF_g rfl rfl).trans ?_; refine (vbnd_0 (v_in (x := toNL (nI (T (tS T p))).toInt64) (a := 48) (b := 57) (f := rkv f T p))).trans ?_))
  have hq : (lsg 48 ≤ lsg (toNL (nI (T (tS T p))).toInt64) ∧ lsg (toNL (nI (T (tS T p))).toInt64) ≤ lsg 57) ↔ tK T p = 2 := (in_9 (h.tx.2.2.2.1 _) (by decide) (by decide)).trans kd9_2.symm
  by_cases k : tK T p = 2
  · rw [if_pos (hq.mpr k), if_pos k]
    (first | (refine (vgt (x := 1) (y := 0) (by decide) (by decide)).trans ?_) | (refine (vF_g rfl rfl).trans ?_; refine (vF_g rfl rfl).trans ?_; refine (vgt (x := 1) (y := 0) (by decide) (by decide)).trans ?_) | (refine (vF_g rfl rfl).trans ?_; refine (vgt (x := 1) (y := 0) (by decide) (by decide)).trans ?_))
    (first | (exact rfl) | (refine (vF_g rfl rfl).trans ?_; refine (vF_g rfl rfl).trans ?_; exact rfl) | (refine (vF_g rfl rfl).trans ?_; refine (vF_g rfl rfl).trans ?_; refine (vF_g rfl rfl).trans ?_; exact rfl) | (refine (vF_g rfl rfl).trans ?_; exact rfl))
  · rw [if_neg (fun w => k (hq.mp w)), if_neg k]
    (first | (refine (veq (x := 0) (y := 0) rfl).trans ?_) | (refine (vF_g rfl rfl).trans ?_; refine (vF_g rfl rfl).trans ?_; refine (veq (x := 0) (y := 0) rfl).trans ?_) | (refine (vF_g rfl rfl).trans ?_; refine (veq (x := 0) (y := 0) rfl).trans ?_))
    (first | (exact rfl) | (refine (vF_g rfl rfl).trans ?_; refine (vF_g rfl rfl).trans ?_; exact rfl) | (refine (vF_g rfl rfl).trans ?_; refine (vF_g rfl rfl).trans ?_; refine (vF_g rfl rfl).trans ?_; exact rfl) | (refine (vF_g rfl rfl).trans ?_; exact rfl))
/-! names -/
theorem v_isNameR {D n c d p : Nat} {T : Nat → Nat} {E V : Nat → Nat → Nat} {f : Vw} (h : RS n T E V c d p f) : (nOK T p → vM MT0 (D + 3) 237 [vR 452] f = some ((0, 0), vI 1, rkv f T p)) ∧ (¬ nOK T p → ∃ g, vM MT0 (D + 3) 237 [vR 452] f = some ((0, 0), vI 0, g) ∧ ERR 1 (tS T p) g) := by
  have e := v_nextR (D := D) h.tx h.at_ h.le
  have hr := rs_rkv h
  have e20 : rkv f T p 452 20 = 0 := hr.er.1
  have hz := tZ_le h.tx.2.2.2.2 h.le
  have hn := h.tx.1
  have hq : (lsg 1 ≤ lsg (toNL (nI (rkv f T p 452 19)).toInt64) ∧ lsg (toNL (nI (rkv f T p 452 19)).toInt64) ≤ lsg 6) ↔ nOK T p := by
    rw [rkv_19, nOK_z, lsg_i2l, sg_eq (show tZ T p ≤ 2147483647 by omega), lsg_s (show 1 < 9223372036854775808 by decide), lsg_s (show 6 < 9223372036854775808 by decide)]
    omega
  refine ⟨fun k => ?_, fun k => ?_⟩
  · have m : vM MT0 (D + 2) 230 [vR 452, vI 1, vI 1] (rkv f T p) = some ((1, 0), vW 3, rkv f T p) := by
      rw [v_must (Or.inr rfl) (by rw [e20]; decide), if_neg (fun w => by cases w.1)]
    have i : vM MT0 (D + 2) 174 [vJ (toNL (nI (rkv f T p 452 19)).toInt64), vJ 1, vJ 6] (rkv f T p) = some ((0, 0), vI 1, rkv f T p) := by
      rw [v_in, if_pos (hq.mpr k)]
    refine vM_go rfl rfl rfl rfl fun F hF => ?_
    (first | (refine (veq h.er.1).trans ?_) | (refine (vF_g rfl rfl).trans ?_; refine (vF_g rfl rfl).trans ?_; refine (veq h.er.1).trans ?_) | (refine (vF_g rfl rfl).trans ?_; refine (veq h.er.1).trans ?_))
    (first | (refine (vbnd_0 e).trans ?_) | (refine (vF_g rfl rfl).trans ?_; refine (vF_g rfl rfl).trans ?_; refine (vbnd_0 e).trans ?_) | (refine (vF_g rfl rfl).trans ?_; refine (vbnd_0 e).trans ?_))
    (first | (refine (vbnd_0 i).trans ?_) | (refine (vF_g rfl rfl).trans ?_; refine (vF_g rfl rfl).trans ?_; refine (vbnd_0 i).trans ?_) | (refine (vF_g rfl rfl).trans ?_; refine (vbnd_0 i).trans ?_))
    (first | (refine (vbnd_1 m).trans ?_) | (refine (vF_g rfl rfl).trans ?_; refine (vF_g rfl rfl).trans ?_; refine (vbnd_1 m).trans ?_) | (refine (vF_g rfl rfl).trans ?_; refine (vbnd_1 m).trans ?_))
    (first | (refine (veq e20).trans ?_) | (refine (vF_g rfl rfl).trans ?_; refine (vF_g rfl rfl).trans ?_; refine (veq e20).trans ?_) | (refine (vF_g rfl rfl).trans ?_; refine (veq e20).trans ?_))
    (first | (exact rfl) | (refine (vF_g rfl rfl).trans ?_; refine (vF_g rfl rfl).trans ?_; exact rfl) | (refine (vF_g rfl rfl).trans ?_; refine (vF_g rfl rfl).trans ?_; refine (vF_g rfl rfl).trans ?_; exact rfl) | (refine (vF_g rfl rfl).trans ?_; exact rfl))
  · have m : vM MT0 (D + 2) 230 [vR 452, vI 0, vI 1] (rkv f T p) = some ((1, 0), vW 3, flR 1 (rkv f T p)) := by
      rw [v_must (Or.inl rfl) (by rw [e20]; decide), if_pos ⟨rfl, e20⟩]
    have i : vM MT0 (D + 2) 174 [vJ (toNL (nI (rkv f T p 452 19)).toInt64), vJ 1, vJ 6] (rkv f T p) = some ((0, 0), vI 0, rkv f T p) := by
      rw [v_in, if_neg (fun w => k (hq.mp w))]
    exact ⟨_, vM_go rfl rfl rfl rfl fun F hF => (by (first | (refine (veq h.er.1).trans ?_) | (refine (vF_g rfl rfl).trans ?_; refine (vF_g rfl rfl).trans ?_; refine (veq h.er.1).trans ?_) | (refine (vF_g rfl rfl).trans ?_; refine (veq h.er.1).trans ?_)); (first | (refine (vbnd_0 e).trans ?_) | (refine (vF_g rfl rfl).trans ?_; refine (vF_g rfl rfl).trans ?_; refine (vbnd_0 e).trans ?_) | (refine (vF_g rfl rfl).trans ?_; refine (vbnd_0 e).trans ?_)); (first | (refine (vbnd_0 i).trans ?_) | (refine (vF_g rfl rfl).trans ?_; refine (vF_g rfl rfl).trans ?_; refine (vbnd_0 i).trans ?_) | (refine (vF_g rfl rfl).trans ?_; refine (vbnd_0 i).trans ?_)); (first | (refine (vbnd_1 m).trans ?_) | (refine (vF_g rfl rfl).trans ?_; refine (vF_g rfl rfl).trans ?_; refine (vbnd_1 m).trans ?_) | (refine (vF_g rfl rfl).trans ?_; refine (vbnd_1 m).trans ?_)); (first | (refine (vne (x := flR 1 (rkv f T p) 452 20) (y := 0) (by rw [flR_20]; decide) (by decide) (by rw [flR_20]; decide)).trans ?_) | (refine (vF_g rfl rfl).trans ?_; refine (vF_g rfl rfl).trans ?_; refine (vne (x := flR 1 (rkv f T p) 452 20) (y := 0) (by rw [flR_20]; decide) (by decide) (by rw [flR_20]; decide)).trans ?_) | (refine (vF_g rfl rfl).trans ?_; refine (vne (x := flR 1 (rkv f T p) 452 20) (y := 0) (by rw [flR_20]; decide) (by decide) (by rw [flR_20]; decide)).trans ?_)); (first | (exact rfl) | (refine (vF_g rfl rfl).trans ?_; refine (vF_g rfl rfl).trans ?_; exact rfl) | (refine (vF_g rfl rfl).trans ?_; refine (vF_g rfl rfl).trans ?_; refine (vF_g rfl rfl).trans ?_; exact rfl) | (refine (vF_g rfl rfl).trans ?_; exact rfl))), err_fl rkv_18 (by decide) (by decide)⟩
def nq (U T : Nat → Nat) (s : Nat) : Nat → Nat → Bool
  | 0, _ => true
  | m + 1, k => if U k = T (s + k) then nq U T s m (k + 1) else false
theorem nq_t {U T : Nat → Nat} {s : Nat} : ∀ (m k : Nat), nq U T s m k = true ↔ ∀ i, k ≤ i → i < k + m → U i = T (s + i) := by
  intro m
  induction m with
  | zero => intro k; exact ⟨fun _ i a b => by omega, fun _ => rfl⟩
  | succ m ih =>
    intro k
    show (if U k = T (s + k) then nq U T s m (k + 1) else false) = true ↔ _
    by_cases q : U k = T (s + k)
    · rw [if_pos q, ih (k + 1)]
      refine ⟨fun w i a b => ?_, fun w i a b => w i (by omega) (by omega)⟩
      by_cases r : i = k
      · rw [r]; exact q
      · exact w i (by omega) (by omega)
    · rw [if_neg q]
      exact ⟨fun w => (by cases w), fun w => absurd (w k (by omega) (by omega)) q⟩
theorem nmr_eq {U T : Nat → Nat} {s : Nat} : ∀ z, nmr U 0 z = nmr T s z ↔ ∀ i, i < z → U i = T (s + i) := by
  intro z
  induction z with
  | zero => exact ⟨fun _ i h => by omega, fun _ => rfl⟩
  | succ z ih =>
    show U (0 + z) :: nmr U 0 z = T (s + z) :: nmr T s z ↔ _
    rw [List.cons.injEq, ih, Nat.zero_add]
    refine ⟨fun w i hi => ?_, fun w => ⟨w z (by omega), fun i hi => w i (by omega)⟩⟩
    by_cases r : i = z
    · rw [r]; exact w.1
    · exact w.2 i (by omega)
theorem nm_is {U T : Nat → Nat} {s z z' : Nat} (h1 : ∀ k, k < z → 97 ≤ U k ∧ U k ≤ 122) (h2 : ∀ k, k < z' → 97 ≤ T (s + k) ∧ T (s + k) ≤ 122) : pkr (nmr U 0 z) = pkr (nmr T s z') ↔ (z = z' ∧ nq U T s z 0 = true) := by
  constructor
  · intro h
    have e : nmr U 0 z = nmr T s z' := pkr_inj (fun c hc => by
      obtain ⟨j, hj, rfl⟩ := nmr_mem hc
      have := h1 (0 + j) (by omega)
      omega) (fun c hc => by
      obtain ⟨j, hj, rfl⟩ := nmr_mem hc
      have := h2 j hj
      omega) h
    have e2 : z = z' := by
      have := congrArg List.length e
      rwa [nmr_len, nmr_len] at this
    subst e2
    exact ⟨rfl, (nq_t z 0).mpr fun i _ hi => nmr_eq z |>.mp e i (by omega)⟩
  · rintro ⟨rfl, h⟩
    rw [(nmr_eq z).mpr fun i hi => (nq_t z 0).mp h i (Nat.zero_le _) (by omega)]
theorem in_loop {D n s a z : Nat} {T U : Nat → Nat} {f : Vw} (hx : TxR f n T) (hs : f 452 18 = s) (hz : f 452 19 = z) (hz6 : z ≤ 6) (hs9 : s ≤ 900) (ha : a ≤ 400) (hU : ∀ k, k < z → f 453 (a + 1 + k) = U k ∧ 97 ≤ U k ∧ U k ≤ 122) : ∀ (m k F : Nat), k + m = z → 3 * m + 3 ≤ F → vFn (vM MT0 (D + 1)) nb_X11_isNamed F 3 0 [vR 452, vI a, vI k] [] f = some ((0, 0), vI (if nq U T s m k = true then 1 else 0), f) := by
  intro m
  induction m with
  | zero =>
    intro k F hk hF
    obtain ⟨F1, rfl⟩ : ∃ F1, F = F1 + 2 := ⟨F - 2, by omega⟩
    rw [show nq U T s 0 k = true from rfl, if_pos rfl]
    (first | (refine (vge2 (x := k) (y := f 452 19) (by omega) (by rw [hz]; omega)).trans ?_) | (refine (vF_g rfl rfl).trans ?_; refine (vF_g rfl rfl).trans ?_; refine (vge2 (x := k) (y := f 452 19) (by omega) (by rw [hz]; omega)).trans ?_) | (refine (vF_g rfl rfl).trans ?_; refine (vge2 (x := k) (y := f 452 19) (by omega) (by rw [hz]; omega)).trans ?_))
    (first | (exact rfl) | (refine (vF_g rfl rfl).trans ?_; refine (vF_g rfl rfl).trans ?_; exact rfl) | (refine (vF_g rfl rfl).trans ?_; refine (vF_g rfl rfl).trans ?_; refine (vF_g rfl rfl).trans ?_; exact rfl) | (refine (vF_g rfl rfl).trans ?_; exact rfl))
  | succ m ih =>
    intro k F hk hF
    obtain ⟨F1, rfl⟩ : ∃ F1, F = F1 + 3 := ⟨F - 3, by omega⟩
    have hq : (f 452 18 + k) % 4294967296 = s + k := by rw [hs, Nat.mod_eq_of_lt (by omega)]
    have ha1 : ((a + 1) % 4294967296 + k) % 4294967296 = a + 1 + k := by omega
    have b : vM MT0 (D + 1) 228 [vR 452, vI (s + k)] f = some ((0, 0), vI (T (s + k)), f) := by
      rw [v_byteR (by omega) (by rw [hx.2.1]; exact hx.1), hx.2.2.1]
    obtain ⟨u1, u2, u3⟩ := hU k (by omega)
    have st : vFn (vM MT0 (D + 1)) nb_X11_isNamed (F1 + 2) 4 0 [vR 452, vI a, vI k] [] f = vc3 (bv (U k)) (bv (T (s + k))) (vFn (vM MT0 (D + 1)) nb_X11_isNamed (F1 + 1) 5 0 [vR 452, vI a, vI k] [] f) (vFn (vM MT0 (D + 1)) nb_X11_isNamed (F1 + 1) 6 0 [vR 452, vI a, vI k] [] f) (vFn (vM MT0 (D + 1)) nb_X11_isNamed (F1 + 1) 5 0 [vR 452, vI a, vI k] [] f) := by
      (first | (refine Eq.trans (b := gd (Nat.ble (((a + 1) % 4294967296 + k) % 4294967296 + 1) 627) (vbnd (vM MT0 (D + 1) 228 [vR 452, vI ((f 452 18 + k) % 4294967296)] f) (fun v g => vB (vM MT0 (D + 1)) (vFn (vM MT0 (D + 1)) nb_X11_isNamed (F1 + 1)) ((1, 5, 6, 5, 0, 0, 0), []) [] 0 [vR 452, vI a, vI k] (v :: [vI (f 453 (((a + 1) % 4294967296 + k) % 4294967296))]) g) (fun g => vB (vM MT0 (D + 1)) (vFn (vM MT0 (D + 1)) nb_X11_isNamed (F1 + 1)) ((1, 5, 6, 5, 0, 0, 0), []) [] 0 [vR 452, vI a, vI k] [vI (f 453 (((a + 1) % 4294967296 + k) % 4294967296))] g) (fun x g => gd false (some ((2, x), vW 3, g))))) rfl ?_) | (refine (vF_g rfl rfl).trans ?_; refine (vF_g rfl rfl).trans ?_; refine Eq.trans (b := gd (Nat.ble (((a + 1) % 4294967296 + k) % 4294967296 + 1) 627) (vbnd (vM MT0 (D + 1) 228 [vR 452, vI ((f 452 18 + k) % 4294967296)] f) (fun v g => vB (vM MT0 (D + 1)) (vFn (vM MT0 (D + 1)) nb_X11_isNamed (F1 + 1)) ((1, 5, 6, 5, 0, 0, 0), []) [] 0 [vR 452, vI a, vI k] (v :: [vI (f 453 (((a + 1) % 4294967296 + k) % 4294967296))]) g) (fun g => vB (vM MT0 (D + 1)) (vFn (vM MT0 (D + 1)) nb_X11_isNamed (F1 + 1)) ((1, 5, 6, 5, 0, 0, 0), []) [] 0 [vR 452, vI a, vI k] [vI (f 453 (((a + 1) % 4294967296 + k) % 4294967296))] g) (fun x g => gd false (some ((2, x), vW 3, g))))) rfl ?_) | (refine (vF_g rfl rfl).trans ?_; refine Eq.trans (b := gd (Nat.ble (((a + 1) % 4294967296 + k) % 4294967296 + 1) 627) (vbnd (vM MT0 (D + 1) 228 [vR 452, vI ((f 452 18 + k) % 4294967296)] f) (fun v g => vB (vM MT0 (D + 1)) (vFn (vM MT0 (D + 1)) nb_X11_isNamed (F1 + 1)) ((1, 5, 6, 5, 0, 0, 0), []) [] 0 [vR 452, vI a, vI k] (v :: [vI (f 453 (((a + 1) % 4294967296 + k) % 4294967296))]) g) (fun g => vB (vM MT0 (D + 1)) (vFn (vM MT0 (D + 1)) nb_X11_isNamed (F1 + 1)) ((1, 5, 6, 5, 0, 0, 0), []) [] 0 [vR 452, vI a, vI k] [vI (f 453 (((a + 1) % 4294967296 + k) % 4294967296))] g) (fun x g => gd false (some ((2, x), vW 3, g))))) rfl ?_))
      rw [ha1, hq, u1, Nat.ble_eq_true_of_le (show a + 1 + k + 1 ≤ 627 by omega)]
      (first | (refine (vbnd_0 b).trans ?_) | (refine (vF_g rfl rfl).trans ?_; refine (vF_g rfl rfl).trans ?_; refine (vbnd_0 b).trans ?_) | (refine (vF_g rfl rfl).trans ?_; refine (vbnd_0 b).trans ?_))
      (first | (exact rfl) | (refine (vF_g rfl rfl).trans ?_; refine (vF_g rfl rfl).trans ?_; exact rfl) | (refine (vF_g rfl rfl).trans ?_; refine (vF_g rfl rfl).trans ?_; refine (vF_g rfl rfl).trans ?_; exact rfl) | (refine (vF_g rfl rfl).trans ?_; exact rfl))
    (first | (refine (vlt (x := k) (y := f 452 19) (by rw [hz]; omega) (by rw [hz]; omega)).trans ?_) | (refine (vF_g rfl rfl).trans ?_; refine (vF_g rfl rfl).trans ?_; refine (vlt (x := k) (y := f 452 19) (by rw [hz]; omega) (by rw [hz]; omega)).trans ?_) | (refine (vF_g rfl rfl).trans ?_; refine (vlt (x := k) (y := f 452 19) (by rw [hz]; omega) (by rw [hz]; omega)).trans ?_))
    refine st.trans ?_
    have hl9 := hx.2.2.2.1 (s + k)
    by_cases q : U k = T (s + k)
    · rw [show nq U T s (m + 1) k = nq U T s m (k + 1) from if_pos q]
      (first | (refine (veq q).trans ?_) | (refine (vF_g rfl rfl).trans ?_; refine (vF_g rfl rfl).trans ?_; refine (veq q).trans ?_) | (refine (vF_g rfl rfl).trans ?_; refine (veq q).trans ?_))
      (first | (refine Eq.trans (b := vFn (vM MT0 (D + 1)) nb_X11_isNamed F1 3 0 [vR 452, vI a, vI ((k + 1) % 4294967296)] [] f) rfl ?_) | (refine (vF_g rfl rfl).trans ?_; refine (vF_g rfl rfl).trans ?_; refine Eq.trans (b := vFn (vM MT0 (D + 1)) nb_X11_isNamed F1 3 0 [vR 452, vI a, vI ((k + 1) % 4294967296)] [] f) rfl ?_) | (refine (vF_g rfl rfl).trans ?_; refine Eq.trans (b := vFn (vM MT0 (D + 1)) nb_X11_isNamed F1 3 0 [vR 452, vI a, vI ((k + 1) % 4294967296)] [] f) rfl ?_))
      rw [Nat.mod_eq_of_lt (show k + 1 < 4294967296 by omega)]
      exact ih (k + 1) F1 (by omega) (by omega)
    · rw [show nq U T s (m + 1) k = false from if_neg q, if_neg (by decide)]
      (first | (refine (vne (x := U k) (y := T (s + k)) (by omega) (by omega) q).trans ?_) | (refine (vF_g rfl rfl).trans ?_; refine (vF_g rfl rfl).trans ?_; refine (vne (x := U k) (y := T (s + k)) (by omega) (by omega) q).trans ?_) | (refine (vF_g rfl rfl).trans ?_; refine (vne (x := U k) (y := T (s + k)) (by omega) (by omega) q).trans ?_))
      (first | (exact rfl) | (refine (vF_g rfl rfl).trans ?_; refine (vF_g rfl rfl).trans ?_; exact rfl) | (refine (vF_g rfl rfl).trans ?_; refine (vF_g rfl rfl).trans ?_; refine (vF_g rfl rfl).trans ?_; exact rfl) | (refine (vF_g rfl rfl).trans ?_; exact rfl))
theorem v_isNamed {D n s a x z : Nat} {T : Nat → Nat} {f : Vw} (hx : TxR f n T) (hs : f 452 18 = s) (hz : f 452 19 = z) (hz6 : z ≤ 6) (hs9 : s ≤ 900) (ha : a ≤ 400) (hr : nmRow f a x) (hw : ∀ k, k < z → 97 ≤ T (s + k) ∧ T (s + k) ≤ 122) : vM MT0 (D + 2) 238 [vR 452, vI a] f = some ((0, 0), vI (if x = pkr (nmr T s z) then 1 else 0), f) := by
  obtain ⟨y, U, y1, y6, ya, yU, rfl⟩ := hr
  refine vM_go rfl rfl rfl rfl fun F hF => ?_
  have st : vFn (vM MT0 (D + 1)) nb_X11_isNamed (F + 60) 0 0 [vR 452, vI a, vW 3] [] f = vc3 (bv y) (bv z) (vFn (vM MT0 (D + 1)) nb_X11_isNamed (F + 59) 1 0 [vR 452, vI a, vW 3] [] f) (vFn (vM MT0 (D + 1)) nb_X11_isNamed (F + 59) 2 0 [vR 452, vI a, vW 3] [] f) (vFn (vM MT0 (D + 1)) nb_X11_isNamed (F + 59) 1 0 [vR 452, vI a, vW 3] [] f) := by
    (first | (refine Eq.trans (b := gd (Nat.ble (a + 1) 627) (vc3 (bv (f 453 a)) (bv (f 452 19)) (vFn (vM MT0 (D + 1)) nb_X11_isNamed (F + 59) 1 0 [vR 452, vI a, vW 3] [] f) (vFn (vM MT0 (D + 1)) nb_X11_isNamed (F + 59) 2 0 [vR 452, vI a, vW 3] [] f) (vFn (vM MT0 (D + 1)) nb_X11_isNamed (F + 59) 1 0 [vR 452, vI a, vW 3] [] f))) rfl ?_) | (refine (vF_g rfl rfl).trans ?_; refine (vF_g rfl rfl).trans ?_; refine Eq.trans (b := gd (Nat.ble (a + 1) 627) (vc3 (bv (f 453 a)) (bv (f 452 19)) (vFn (vM MT0 (D + 1)) nb_X11_isNamed (F + 59) 1 0 [vR 452, vI a, vW 3] [] f) (vFn (vM MT0 (D + 1)) nb_X11_isNamed (F + 59) 2 0 [vR 452, vI a, vW 3] [] f) (vFn (vM MT0 (D + 1)) nb_X11_isNamed (F + 59) 1 0 [vR 452, vI a, vW 3] [] f))) rfl ?_) | (refine (vF_g rfl rfl).trans ?_; refine Eq.trans (b := gd (Nat.ble (a + 1) 627) (vc3 (bv (f 453 a)) (bv (f 452 19)) (vFn (vM MT0 (D + 1)) nb_X11_isNamed (F + 59) 1 0 [vR 452, vI a, vW 3] [] f) (vFn (vM MT0 (D + 1)) nb_X11_isNamed (F + 59) 2 0 [vR 452, vI a, vW 3] [] f) (vFn (vM MT0 (D + 1)) nb_X11_isNamed (F + 59) 1 0 [vR 452, vI a, vW 3] [] f))) rfl ?_))
    rw [ya, hz, Nat.ble_eq_true_of_le (show a + 1 ≤ 627 by omega)]
    (first | (exact rfl) | (refine (vF_g rfl rfl).trans ?_; refine (vF_g rfl rfl).trans ?_; exact rfl) | (refine (vF_g rfl rfl).trans ?_; refine (vF_g rfl rfl).trans ?_; refine (vF_g rfl rfl).trans ?_; exact rfl) | (refine (vF_g rfl rfl).trans ?_; exact rfl))
  have hi := nm_is (z := y) (z' := z) (s := s) (T := T) (fun k hk => (yU k hk).2) hw
  by_cases q : y = z
  · subst q
    have lo := in_loop (D := D) (U := U) hx hs hz hz6 hs9 ha yU y 0 (F + 58) (by omega) (by omega)
    refine st.trans ?_
    (first | (refine (veq (x := y) (y := y) rfl).trans ?_) | (refine (vF_g rfl rfl).trans ?_; refine (vF_g rfl rfl).trans ?_; refine (veq (x := y) (y := y) rfl).trans ?_) | (refine (vF_g rfl rfl).trans ?_; refine (veq (x := y) (y := y) rfl).trans ?_))
    (first | (refine Eq.trans (b := vFn (vM MT0 (D + 1)) nb_X11_isNamed (F + 58) 3 0 [vR 452, vI a, vI 0] [] f) rfl ?_) | (refine (vF_g rfl rfl).trans ?_; refine (vF_g rfl rfl).trans ?_; refine Eq.trans (b := vFn (vM MT0 (D + 1)) nb_X11_isNamed (F + 58) 3 0 [vR 452, vI a, vI 0] [] f) rfl ?_) | (refine (vF_g rfl rfl).trans ?_; refine Eq.trans (b := vFn (vM MT0 (D + 1)) nb_X11_isNamed (F + 58) 3 0 [vR 452, vI a, vI 0] [] f) rfl ?_))
    refine lo.trans ?_
    by_cases w : nq U T s y 0 = true
    · rw [if_pos w, if_pos (hi.mpr ⟨rfl, w⟩)]
    · rw [if_neg w, if_neg (fun r => w (hi.mp r).2)]
  · rw [if_neg (fun r => q (hi.mp r).1)]
    refine st.trans ?_
    (first | (refine (vne (x := y) (y := z) (by omega) (by omega) q).trans ?_) | (refine (vF_g rfl rfl).trans ?_; refine (vF_g rfl rfl).trans ?_; refine (vne (x := y) (y := z) (by omega) (by omega) q).trans ?_) | (refine (vF_g rfl rfl).trans ?_; refine (vne (x := y) (y := z) (by omega) (by omega) q).trans ?_))
    (first | (exact rfl) | (refine (vF_g rfl rfl).trans ?_; refine (vF_g rfl rfl).trans ?_; exact rfl) | (refine (vF_g rfl rfl).trans ?_; refine (vF_g rfl rfl).trans ?_; refine (vF_g rfl rfl).trans ?_; exact rfl) | (refine (vF_g rfl rfl).trans ?_; exact rfl))
