/-! bytes appended: the program's and the reference's -/
noncomputable def cb (x : Nat) : Nat := toN (nI (gU9 1 x)).toInt8.toInt32
noncomputable def ab1 (f : Vw) (x : Nat) : Vw := vup (vup f 2 (f 1 1) (cb x)) 1 1 (f 1 1 + 1)
noncomputable def abL : Vw → List Nat → Vw
  | f, [] => f
  | f, x :: l => abL (ab1 f x) l
noncomputable def ar1 (f : Vw) (x : Nat) : Vw := vup (vup f 462 (f 452 16) x) 452 16 (f 452 16 + 1)
noncomputable def arL : Vw → List Nat → Vw
  | f, [] => f
  | f, x :: l => arL (ar1 f x) l
theorem ab1_n {f : Vw} {x : Nat} : ab1 f x 1 1 = f 1 1 + 1 := vup_eq
theorem ar1_n {f : Vw} {x : Nat} : ar1 f x 452 16 = f 452 16 + 1 := vup_eq
theorem v_add {D x : Nat} {f : Vw} (h : f 1 1 < 900) : vM MT0 (D + 1) 1 [vR 1, vI x] f = some ((1, 0), vW 3, ab1 f x) := by
  refine vM_go rfl rfl rfl rfl fun F hF => ?_
  (first | (refine (vlt (x := f 1 1) (y := 900) (by decide) h).trans ?_) | (refine (vF_g rfl rfl).trans ?_; refine (vF_g rfl rfl).trans ?_; refine (vlt (x := f 1 1) (y := 900) (by decide) h).trans ?_) | (refine (vF_g rfl rfl).trans ?_; refine (vlt (x := f 1 1) (y := 900) (by decide) h).trans ?_))
  (first | (refine Eq.trans (b := gd (Nat.ble (f 1 1 + 1) 900) (vFn (vM MT0 D) nb_X0_add (F + 58) 2 0 (iniL 2 [vR 1, vI x]) [] (vup (vup f 2 (f 1 1) (cb x)) 1 1 ((vup f 2 (f 1 1) (cb x) 1 1 + 1) % 4294967296)))) rfl ?_) | (refine (vF_g rfl rfl).trans ?_; refine (vF_g rfl rfl).trans ?_; refine Eq.trans (b := gd (Nat.ble (f 1 1 + 1) 900) (vFn (vM MT0 D) nb_X0_add (F + 58) 2 0 (iniL 2 [vR 1, vI x]) [] (vup (vup f 2 (f 1 1) (cb x)) 1 1 ((vup f 2 (f 1 1) (cb x) 1 1 + 1) % 4294967296)))) rfl ?_) | (refine (vF_g rfl rfl).trans ?_; refine Eq.trans (b := gd (Nat.ble (f 1 1 + 1) 900) (vFn (vM MT0 D) nb_X0_add (F + 58) 2 0 (iniL 2 [vR 1, vI x]) [] (vup (vup f 2 (f 1 1) (cb x)) 1 1 ((vup f 2 (f 1 1) (cb x) 1 1 + 1) % 4294967296)))) rfl ?_))
  rw [Nat.ble_eq_true_of_le (show f 1 1 + 1 ≤ 900 from h), vup_ne (f := f) (show (1 : Nat) ≠ 2 ∨ (1 : Nat) ≠ f 1 1 from Or.inl (by decide)), Nat.mod_eq_of_lt (show f 1 1 + 1 < 4294967296 by omega)]
  (first | (exact rfl) | (refine (vF_g rfl rfl).trans ?_; refine (vF_g rfl rfl).trans ?_; exact rfl) | (refine (vF_g rfl rfl).trans ?_; refine (vF_g rfl rfl).trans ?_; refine (vF_g rfl rfl).trans ?_; exact rfl) | (refine (vF_g rfl rfl).trans ?_; exact rfl))
/-- the four bytes of an int -/
noncomputable def l4c (v : Nat) : List Nat := [g_ishr v 24, g_ishr v 16, g_ishr v 8, v]
noncomputable def l4r (v : Nat) : List Nat := [g_iand (g_ishr v 24) 255, g_iand (g_ishr v 16) 255, g_iand (g_ishr v 8) 255, g_iand (g_ishr v 0) 255]
theorem v_addInt {D v : Nat} {f : Vw} (h : f 1 1 + 4 ≤ 900) : vM MT0 (D + 2) 2 [vR 1, vI v] f = some ((1, 0), vW 3, abL f (l4c v)) := by
  have h1 : ab1 f (g_ishr v 24) 1 1 = f 1 1 + 1 := ab1_n
  have h2 : ab1 (ab1 f (g_ishr v 24)) (g_ishr v 16) 1 1 = f 1 1 + 1 + 1 := ab1_n.trans (by rw [h1])
  have h3 : ab1 (ab1 (ab1 f (g_ishr v 24)) (g_ishr v 16)) (g_ishr v 8) 1 1 = f 1 1 + 1 + 1 + 1 := ab1_n.trans (by rw [h2])
  have e1 := v_add (D := D) (x := g_ishr v 24) (f := f) (by omega)
  have e2 := v_add (D := D) (x := g_ishr v 16) (f := ab1 f (g_ishr v 24)) (by omega)
  have e3 := v_add (D := D) (x := g_ishr v 8) (f := ab1 (ab1 f (g_ishr v 24)) (g_ishr v 16)) (by omega)
  have e4 := v_add (D := D) (x := v) (f := ab1 (ab1 (ab1 f (g_ishr v 24)) (g_ishr v 16)) (g_ishr v 8)) (by omega)
  refine vM_go rfl rfl rfl rfl fun F hF => ?_
  (first | (refine (vbnd_1 e1).trans ?_) | (refine (vF_g rfl rfl).trans ?_; refine (vF_g rfl rfl).trans ?_; refine (vbnd_1 e1).trans ?_) | (refine (vF_g rfl rfl).trans ?_; refine (vbnd_1 e1).trans ?_))
  (first | (refine (vbnd_1 e2).trans ?_) | (refine (vF_g rfl rfl).trans ?_; refine (vF_g rfl rfl).trans ?_; refine (vbnd_1 e2).trans ?_) | (refine (vF_g rfl rfl).trans ?_; refine (vbnd_1 e2).trans ?_))
  (first | (refine (vbnd_1 e3).trans ?_) | (refine (vF_g rfl rfl).trans ?_; refine (vF_g rfl rfl).trans ?_; refine (vbnd_1 e3).trans ?_) | (refine (vF_g rfl rfl).trans ?_; refine (vbnd_1 e3).trans ?_))
  (first | (refine (vbnd_1 e4).trans ?_) | (refine (vF_g rfl rfl).trans ?_; refine (vF_g rfl rfl).trans ?_; refine (vbnd_1 e4).trans ?_) | (refine (vF_g rfl rfl).trans ?_; refine (vbnd_1 e4).trans ?_))
  (first | (exact rfl) | (refine (vF_g rfl rfl).trans ?_; refine (vF_g rfl rfl).trans ?_; exact rfl) | (refine (vF_g rfl rfl).trans ?_; refine (vF_g rfl rfl).trans ?_; refine (vF_g rfl rfl).trans ?_; exact rfl) | (refine (vF_g rfl rfl).trans ?_; exact rfl))
theorem abL_n : ∀ (l : List Nat) (f : Vw), abL f l 1 1 = f 1 1 + l.length := by
  intro l
  induction l with
  | nil => intro f; rfl
  | cons x l ih =>
    intro f
    show abL (ab1 f x) l 1 1 = f 1 1 + (l.length + 1)
    rw [ih, ab1_n]
    omega
theorem arL_n : ∀ (l : List Nat) (f : Vw), arL f l 452 16 = f 452 16 + l.length := by
  intro l
  induction l with
  | nil => intro f; rfl
  | cons x l ih =>
    intro f
    show arL (ar1 f x) l 452 16 = f 452 16 + (l.length + 1)
    rw [ih, ar1_n]
    omega
theorem abL_app : ∀ (l m : List Nat) (f : Vw), abL f (l ++ m) = abL (abL f l) m := by
  intro l
  induction l with
  | nil => intro m f; rfl
  | cons x l ih => intro m f; exact ih m (ab1 f x)
theorem arL_app : ∀ (l m : List Nat) (f : Vw), arL f (l ++ m) = arL (arL f l) m := by
  intro l
  induction l with
  | nil => intro m f; rfl
  | cons x l ih => intro m f; exact ih m (ar1 f x)
theorem abL_at : ∀ (l : List Nat) (f : Vw) (i : Nat), abL f l 2 i = if f 1 1 ≤ i ∧ i < f 1 1 + l.length then cb (nthN l 0 (i - f 1 1)) else f 2 i := by
  intro l
  induction l with
  | nil =>
    intro f i
    rw [if_neg (show ¬ (f 1 1 ≤ i ∧ i < f 1 1 + ([] : List Nat).length) from fun w => by have := w.2; simp at this; omega)]
    (first | (exact rfl) | (refine (vF_g rfl rfl).trans ?_; refine (vF_g rfl rfl).trans ?_; exact rfl) | (refine (vF_g rfl rfl).trans ?_; refine (vF_g rfl rfl).trans ?_; refine (vF_g rfl rfl).trans ?_; exact rfl) | (refine (vF_g rfl rfl).trans ?_; exact rfl))
  | cons x l ih =>
    intro f i
    show abL (ab1 f x) l 2 i = if f 1 1 ≤ i ∧ i < f 1 1 + (l.length + 1) then cb (nthN (x :: l) 0 (i - f 1 1)) else f 2 i
    have e : ab1 f x 2 i = if i = f 1 1 then cb x else f 2 i := by
      refine (vup_ne (Or.inl (by decide))).trans ?_
      by_cases q : i = f 1 1
      · rw [if_pos q, q]
        exact vup_eq
      · rw [if_neg q]
        exact vup_ne (Or.inr q)
    rw [ih, ab1_n, e]
    by_cases q : i = f 1 1
    · rw [if_neg (by omega), if_pos q, if_pos (by omega), q, Nat.sub_self]
      (first | (exact rfl) | (refine (vF_g rfl rfl).trans ?_; refine (vF_g rfl rfl).trans ?_; exact rfl) | (refine (vF_g rfl rfl).trans ?_; refine (vF_g rfl rfl).trans ?_; refine (vF_g rfl rfl).trans ?_; exact rfl) | (refine (vF_g rfl rfl).trans ?_; exact rfl))
    · by_cases q2 : f 1 1 + 1 ≤ i ∧ i < f 1 1 + 1 + l.length
      · rw [if_pos q2, if_pos (by omega), show i - f 1 1 = i - (f 1 1 + 1) + 1 by omega]
        (first | (exact rfl) | (refine (vF_g rfl rfl).trans ?_; refine (vF_g rfl rfl).trans ?_; exact rfl) | (refine (vF_g rfl rfl).trans ?_; refine (vF_g rfl rfl).trans ?_; refine (vF_g rfl rfl).trans ?_; exact rfl) | (refine (vF_g rfl rfl).trans ?_; exact rfl))
      · rw [if_neg q2, if_neg q, if_neg (by omega)]
theorem arL_at : ∀ (l : List Nat) (f : Vw) (i : Nat), arL f l 462 i = if f 452 16 ≤ i ∧ i < f 452 16 + l.length then nthN l 0 (i - f 452 16) else f 462 i := by
  intro l
  induction l with
  | nil =>
    intro f i
    rw [if_neg (show ¬ (f 452 16 ≤ i ∧ i < f 452 16 + ([] : List Nat).length) from fun w => by have := w.2; simp at this; omega)]
    (first | (exact rfl) | (refine (vF_g rfl rfl).trans ?_; refine (vF_g rfl rfl).trans ?_; exact rfl) | (refine (vF_g rfl rfl).trans ?_; refine (vF_g rfl rfl).trans ?_; refine (vF_g rfl rfl).trans ?_; exact rfl) | (refine (vF_g rfl rfl).trans ?_; exact rfl))
  | cons x l ih =>
    intro f i
    show arL (ar1 f x) l 462 i = if f 452 16 ≤ i ∧ i < f 452 16 + (l.length + 1) then nthN (x :: l) 0 (i - f 452 16) else f 462 i
    have e : ar1 f x 462 i = if i = f 452 16 then x else f 462 i := by
      refine (vup_ne (Or.inl (by decide))).trans ?_
      by_cases q : i = f 452 16
      · rw [if_pos q, q]
        exact vup_eq
      · rw [if_neg q]
        exact vup_ne (Or.inr q)
    rw [ih, ar1_n, e]
    by_cases q : i = f 452 16
    · rw [if_neg (by omega), if_pos q, if_pos (by omega), q, Nat.sub_self]
      (first | (exact rfl) | (refine (vF_g rfl rfl).trans ?_; refine (vF_g rfl rfl).trans ?_; exact rfl) | (refine (vF_g rfl rfl).trans ?_; refine (vF_g rfl rfl).trans ?_; refine (vF_g rfl rfl).trans ?_; exact rfl) | (refine (vF_g rfl rfl).trans ?_; exact rfl))
    · by_cases q2 : f 452 16 + 1 ≤ i ∧ i < f 452 16 + 1 + l.length
      · rw [if_pos q2, if_pos (by omega), show i - f 452 16 = i - (f 452 16 + 1) + 1 by omega]
        (first | (exact rfl) | (refine (vF_g rfl rfl).trans ?_; refine (vF_g rfl rfl).trans ?_; exact rfl) | (refine (vF_g rfl rfl).trans ?_; refine (vF_g rfl rfl).trans ?_; refine (vF_g rfl rfl).trans ?_; exact rfl) | (refine (vF_g rfl rfl).trans ?_; exact rfl))
      · rw [if_neg q2, if_neg q, if_neg (by omega)]
theorem abL_o : ∀ (l : List Nat) (f : Vw) (k i : Nat), k ≠ 1 → k ≠ 2 → abL f l k i = f k i := by
  intro l
  induction l with
  | nil => intro f k i _ _; rfl
  | cons x l ih => intro f k i h1 h2; exact (ih (ab1 f x) k i h1 h2).trans ((vup_ne (Or.inl h1)).trans (vup_ne (Or.inl h2)))
theorem arL_o : ∀ (l : List Nat) (f : Vw) (k i : Nat), k ≠ 452 → k ≠ 462 → arL f l k i = f k i := by
  intro l
  induction l with
  | nil => intro f k i _ _; rfl
  | cons x l ih => intro f k i h1 h2; exact (ih (ar1 f x) k i h1 h2).trans ((vup_ne (Or.inl h1)).trans (vup_ne (Or.inl h2)))
noncomputable def lc20 (a b c d e : Nat) : List Nat := l4c a ++ (l4c b ++ (l4c c ++ (l4c d ++ l4c e)))
noncomputable def lr20 (a b c d e : Nat) : List Nat := l4r a ++ (l4r b ++ (l4r c ++ (l4r d ++ l4r e)))
/-- the program's append -/
theorem v_appC {D a b c d e : Nat} {f : Vw} (h9 : f 1 1 ≤ 900) : (f 1 1 + 20 ≤ 900 → vM MT0 (D + 3) 99 [vR 0, vI a, vI b, vI c, vI d, vI e] f = some ((0, 0), vI (f 1 1 + 20), abL f (lc20 a b c d e))) ∧ (¬ f 1 1 + 20 ≤ 900 → vM MT0 (D + 3) 99 [vR 0, vI a, vI b, vI c, vI d, vI e] f = some ((2, 0), vW 3, f)) := by
  have hq : (f 1 1 + 20) % 4294967296 = f 1 1 + 20 := Nat.mod_eq_of_lt (by omega)
  refine ⟨fun h => ?_, fun h => ?_⟩
  · have h1 : abL f (l4c a) 1 1 = f 1 1 + 4 := abL_n _ _
    have h2 : abL (abL f (l4c a)) (l4c b) 1 1 = f 1 1 + 4 + 4 := (abL_n _ _).trans (by rw [h1]; rfl)
    have h3 : abL (abL (abL f (l4c a)) (l4c b)) (l4c c) 1 1 = f 1 1 + 4 + 4 + 4 := (abL_n _ _).trans (by rw [h2]; rfl)
    have h4 : abL (abL (abL (abL f (l4c a)) (l4c b)) (l4c c)) (l4c d) 1 1 = f 1 1 + 4 + 4 + 4 + 4 := (abL_n _ _).trans (by rw [h3]; rfl)
    have h5 : abL (abL (abL (abL (abL f (l4c a)) (l4c b)) (l4c c)) (l4c d)) (l4c e) 1 1 = f 1 1 + 4 + 4 + 4 + 4 + 4 := (abL_n _ _).trans (by rw [h4]; rfl)
    have e1 := v_addInt (D := D) (v := a) (f := f) (by omega)
    have e2 := v_addInt (D := D) (v := b) (f := abL f (l4c a)) (by omega)
    have e3 := v_addInt (D := D) (v := c) (f := abL (abL f (l4c a)) (l4c b)) (by omega)
    have e4 := v_addInt (D := D) (v := d) (f := abL (abL (abL f (l4c a)) (l4c b)) (l4c c)) (by omega)
    have e5 := v_addInt (D := D) (v := e) (f := abL (abL (abL (abL f (l4c a)) (l4c b)) (l4c c)) (l4c d)) (by omega)
    have ef : abL f (lc20 a b c d e) = abL (abL (abL (abL (abL f (l4c a)) (l4c b)) (l4c c)) (l4c d)) (l4c e) := by
      unfold lc20
      rw [abL_app, abL_app, abL_app, abL_app]
    rw [ef]
    refine vM_go rfl rfl rfl rfl fun F hF => ?_
    (first | (refine (vle2 (x := (f 1 1 + 20) % 4294967296) (y := 900) (by decide) (by omega)).trans ?_) | (refine (vF_g rfl rfl).trans ?_; refine (vF_g rfl rfl).trans ?_; refine (vle2 (x := (f 1 1 + 20) % 4294967296) (y := 900) (by decide) (by omega)).trans ?_) | (refine (vF_g rfl rfl).trans ?_; refine (vle2 (x := (f 1 1 + 20) % 4294967296) (y := 900) (by decide) (by omega)).trans ?_))
    (first | (refine (vbnd_1 e1).trans ?_) | (refine (vF_g rfl rfl).trans ?_; refine (vF_g rfl rfl).trans ?_; refine (vbnd_1 e1).trans ?_) | (refine (vF_g rfl rfl).trans ?_; refine (vbnd_1 e1).trans ?_))
    (first | (refine (vbnd_1 e2).trans ?_) | (refine (vF_g rfl rfl).trans ?_; refine (vF_g rfl rfl).trans ?_; refine (vbnd_1 e2).trans ?_) | (refine (vF_g rfl rfl).trans ?_; refine (vbnd_1 e2).trans ?_))
    (first | (refine (vbnd_1 e3).trans ?_) | (refine (vF_g rfl rfl).trans ?_; refine (vF_g rfl rfl).trans ?_; refine (vbnd_1 e3).trans ?_) | (refine (vF_g rfl rfl).trans ?_; refine (vbnd_1 e3).trans ?_))
    (first | (refine (vbnd_1 e4).trans ?_) | (refine (vF_g rfl rfl).trans ?_; refine (vF_g rfl rfl).trans ?_; refine (vbnd_1 e4).trans ?_) | (refine (vF_g rfl rfl).trans ?_; refine (vbnd_1 e4).trans ?_))
    (first | (refine (vbnd_1 e5).trans ?_) | (refine (vF_g rfl rfl).trans ?_; refine (vF_g rfl rfl).trans ?_; refine (vbnd_1 e5).trans ?_) | (refine (vF_g rfl rfl).trans ?_; refine (vbnd_1 e5).trans ?_))
    (first | (refine Eq.trans (b := some (((0, 0), vI (abL (abL (abL (abL (abL f (l4c a)) (l4c b)) (l4c c)) (l4c d)) (l4c e) 1 1), abL (abL (abL (abL (abL f (l4c a)) (l4c b)) (l4c c)) (l4c d)) (l4c e)) : VR)) rfl ?_) | (refine (vF_g rfl rfl).trans ?_; refine (vF_g rfl rfl).trans ?_; refine Eq.trans (b := some (((0, 0), vI (abL (abL (abL (abL (abL f (l4c a)) (l4c b)) (l4c c)) (l4c d)) (l4c e) 1 1), abL (abL (abL (abL (abL f (l4c a)) (l4c b)) (l4c c)) (l4c d)) (l4c e)) : VR)) rfl ?_) | (refine (vF_g rfl rfl).trans ?_; refine Eq.trans (b := some (((0, 0), vI (abL (abL (abL (abL (abL f (l4c a)) (l4c b)) (l4c c)) (l4c d)) (l4c e) 1 1), abL (abL (abL (abL (abL f (l4c a)) (l4c b)) (l4c c)) (l4c d)) (l4c e)) : VR)) rfl ?_))
    rw [h5]
  · refine vM_go rfl rfl rfl rfl fun F hF => ?_
    (first | (refine (vgt (x := (f 1 1 + 20) % 4294967296) (y := 900) (by omega) (by omega)).trans ?_) | (refine (vF_g rfl rfl).trans ?_; refine (vF_g rfl rfl).trans ?_; refine (vgt (x := (f 1 1 + 20) % 4294967296) (y := 900) (by omega) (by omega)).trans ?_) | (refine (vF_g rfl rfl).trans ?_; refine (vgt (x := (f 1 1 + 20) % 4294967296) (y := 900) (by omega) (by omega)).trans ?_))
    (first | (exact rfl) | (refine (vF_g rfl rfl).trans ?_; refine (vF_g rfl rfl).trans ?_; exact rfl) | (refine (vF_g rfl rfl).trans ?_; refine (vF_g rfl rfl).trans ?_; refine (vF_g rfl rfl).trans ?_; exact rfl) | (refine (vF_g rfl rfl).trans ?_; exact rfl))
/-- the reference's four bytes -/
theorem v_four {D v : Nat} {f : Vw} (h : f 452 16 + 4 ≤ 900) : vM MT0 (D + 1) 225 [vR 452, vI v] f = some ((1, 0), vW 3, arL f (l4r v)) := by
  have st : ∀ (F s t : Nat) (g : Vw), s < 2147483648 → (s + 4294967288) % 4294967296 = t → g 452 16 < 900 → vFn (vM MT0 D) nb_X11_four (F + 2) 1 0 [vR 452, vI v, vI s] [] g = vFn (vM MT0 D) nb_X11_four F 1 0 [vR 452, vI v, vI t] [] (ar1 g (g_iand (g_ishr v s) 255)) := by
    intro F s t g hs ht hg
    (first | (refine (vge2 (x := s) (y := 0) hs (Nat.zero_le _)).trans ?_) | (refine (vF_g rfl rfl).trans ?_; refine (vF_g rfl rfl).trans ?_; refine (vge2 (x := s) (y := 0) hs (Nat.zero_le _)).trans ?_) | (refine (vF_g rfl rfl).trans ?_; refine (vge2 (x := s) (y := 0) hs (Nat.zero_le _)).trans ?_))
    (first | (refine Eq.trans (b := gd (Nat.ble (g 452 16 + 1) 900) (vFn (vM MT0 D) nb_X11_four F 1 0 [vR 452, vI v, vI ((s + 4294967288) % 4294967296)] [] (vup (vup g 462 (g 452 16) (g_iand (g_ishr v s) 255)) 452 16 ((vup g 462 (g 452 16) (g_iand (g_ishr v s) 255) 452 16 + 1) % 4294967296)))) rfl ?_) | (refine (vF_g rfl rfl).trans ?_; refine (vF_g rfl rfl).trans ?_; refine Eq.trans (b := gd (Nat.ble (g 452 16 + 1) 900) (vFn (vM MT0 D) nb_X11_four F 1 0 [vR 452, vI v, vI ((s + 4294967288) % 4294967296)] [] (vup (vup g 462 (g 452 16) (g_iand (g_ishr v s) 255)) 452 16 ((vup g 462 (g 452 16) (g_iand (g_ishr v s) 255) 452 16 + 1) % 4294967296)))) rfl ?_) | (refine (vF_g rfl rfl).trans ?_; refine Eq.trans (b := gd (Nat.ble (g 452 16 + 1) 900) (vFn (vM MT0 D) nb_X11_four F 1 0 [vR 452, vI v, vI ((s + 4294967288) % 4294967296)] [] (vup (vup g 462 (g 452 16) (g_iand (g_ishr v s) 255)) 452 16 ((vup g 462 (g 452 16) (g_iand (g_ishr v s) 255) 452 16 + 1) % 4294967296)))) rfl ?_))
    rw [Nat.ble_eq_true_of_le (show g 452 16 + 1 ≤ 900 from hg), ht, vup_ne (f := g) (show (452 : Nat) ≠ 462 ∨ (16 : Nat) ≠ g 452 16 from Or.inl (by decide)), Nat.mod_eq_of_lt (show g 452 16 + 1 < 4294967296 by omega)]
    (first | (exact rfl) | (refine (vF_g rfl rfl).trans ?_; refine (vF_g rfl rfl).trans ?_; exact rfl) | (refine (vF_g rfl rfl).trans ?_; refine (vF_g rfl rfl).trans ?_; refine (vF_g rfl rfl).trans ?_; exact rfl) | (refine (vF_g rfl rfl).trans ?_; exact rfl))
  have h1 : ar1 f (g_iand (g_ishr v 24) 255) 452 16 = f 452 16 + 1 := ar1_n
  have h2 : ar1 (ar1 f (g_iand (g_ishr v 24) 255)) (g_iand (g_ishr v 16) 255) 452 16 = f 452 16 + 1 + 1 := ar1_n.trans (by rw [h1])
  have h3 : ar1 (ar1 (ar1 f (g_iand (g_ishr v 24) 255)) (g_iand (g_ishr v 16) 255)) (g_iand (g_ishr v 8) 255) 452 16 = f 452 16 + 1 + 1 + 1 := ar1_n.trans (by rw [h2])
  refine vM_go rfl rfl rfl rfl fun F hF => ?_
  (first | (refine Eq.trans (b := vFn (vM MT0 D) nb_X11_four (F + 59) 1 0 [vR 452, vI v, vI 24] [] f) rfl ?_) | (refine (vF_g rfl rfl).trans ?_; refine (vF_g rfl rfl).trans ?_; refine Eq.trans (b := vFn (vM MT0 D) nb_X11_four (F + 59) 1 0 [vR 452, vI v, vI 24] [] f) rfl ?_) | (refine (vF_g rfl rfl).trans ?_; refine Eq.trans (b := vFn (vM MT0 D) nb_X11_four (F + 59) 1 0 [vR 452, vI v, vI 24] [] f) rfl ?_))
  refine (st (F + 57) 24 16 _ (by decide) (by decide) (by omega)).trans ((st (F + 55) 16 8 _ (by decide) (by decide) (by omega)).trans ((st (F + 53) 8 0 _ (by decide) (by decide) (by omega)).trans ((st (F + 51) 0 4294967288 _ (by decide) (by decide) (by omega)).trans ?_)))
  (first | (refine (vmin (x := 4294967288) (y := 0) (by decide) (by decide) (by decide)).trans ?_) | (refine (vF_g rfl rfl).trans ?_; refine (vF_g rfl rfl).trans ?_; refine (vmin (x := 4294967288) (y := 0) (by decide) (by decide) (by decide)).trans ?_) | (refine (vF_g rfl rfl).trans ?_; refine (vmin (x := 4294967288) (y := 0) (by decide) (by decide) (by decide)).trans ?_))
  (first | (exact rfl) | (refine (vF_g rfl rfl).trans ?_; refine (vF_g rfl rfl).trans ?_; exact rfl) | (refine (vF_g rfl rfl).trans ?_; refine (vF_g rfl rfl).trans ?_; refine (vF_g rfl rfl).trans ?_; exact rfl) | (refine (vF_g rfl rfl).trans ?_; exact rfl))
theorem v_passes9 {D b : Nat} {f : Vw} (h : b = 0 ∨ b = 1) : vM MT0 (D + 1) 176 [vR 452, vI b] f = some ((0, 0), vI b, vup f 452 6 (1 - b)) := v_passes h
/-- the reference's append -/
theorem v_appR {D a b c d e : Nat} {f : Vw} (h9 : f 452 16 ≤ 900) : (f 452 16 + 20 ≤ 900 → vM MT0 (D + 2) 226 [vR 452, vI a, vI b, vI c, vI d, vI e] f = some ((0, 0), vI (f 452 16 + 20), arL (vup f 452 6 0) (lr20 a b c d e))) ∧ (¬ f 452 16 + 20 ≤ 900 → vM MT0 (D + 2) 226 [vR 452, vI a, vI b, vI c, vI d, vI e] f = some ((0, 0), vI 0, vup f 452 6 1)) := by
  have hq : (f 452 16 + 20) % 4294967296 = f 452 16 + 20 := Nat.mod_eq_of_lt (by omega)
  refine ⟨fun h => ?_, fun h => ?_⟩
  · have p := v_passes (D := D) (b := 1) (f := f) (Or.inr rfl)
    have h0 : vup f 452 6 0 452 16 = f 452 16 := vup_ne (Or.inr (by decide))
    have h1 : arL (vup f 452 6 0) (l4r a) 452 16 = f 452 16 + 4 := (arL_n _ _).trans (by rw [h0]; rfl)
    have h2 : arL (arL (vup f 452 6 0) (l4r a)) (l4r b) 452 16 = f 452 16 + 4 + 4 := (arL_n _ _).trans (by rw [h1]; rfl)
    have h3 : arL (arL (arL (vup f 452 6 0) (l4r a)) (l4r b)) (l4r c) 452 16 = f 452 16 + 4 + 4 + 4 := (arL_n _ _).trans (by rw [h2]; rfl)
    have h4 : arL (arL (arL (arL (vup f 452 6 0) (l4r a)) (l4r b)) (l4r c)) (l4r d) 452 16 = f 452 16 + 4 + 4 + 4 + 4 := (arL_n _ _).trans (by rw [h3]; rfl)
    have h5 : arL (arL (arL (arL (arL (vup f 452 6 0) (l4r a)) (l4r b)) (l4r c)) (l4r d)) (l4r e) 452 16 = f 452 16 + 4 + 4 + 4 + 4 + 4 := (arL_n _ _).trans (by rw [h4]; rfl)
    have e1 := v_four (D := D) (v := a) (f := vup f 452 6 0) (by omega)
    have e2 := v_four (D := D) (v := b) (f := arL (vup f 452 6 0) (l4r a)) (by omega)
    have e3 := v_four (D := D) (v := c) (f := arL (arL (vup f 452 6 0) (l4r a)) (l4r b)) (by omega)
    have e4 := v_four (D := D) (v := d) (f := arL (arL (arL (vup f 452 6 0) (l4r a)) (l4r b)) (l4r c)) (by omega)
    have e5 := v_four (D := D) (v := e) (f := arL (arL (arL (arL (vup f 452 6 0) (l4r a)) (l4r b)) (l4r c)) (l4r d)) (by omega)
    have ef : arL (vup f 452 6 0) (lr20 a b c d e) = arL (arL (arL (arL (arL (vup f 452 6 0) (l4r a)) (l4r b)) (l4r c)) (l4r d)) (l4r e) := by
      unfold lr20
      rw [arL_app, arL_app, arL_app, arL_app]
    rw [ef]
    refine vM_go rfl rfl rfl rfl fun F hF => ?_
    (first | (refine (vle2 (x := (f 452 16 + 20) % 4294967296) (y := 900) (by decide) (by omega)).trans ?_) | (refine (vF_g rfl rfl).trans ?_; refine (vF_g rfl rfl).trans ?_; refine (vle2 (x := (f 452 16 + 20) % 4294967296) (y := 900) (by decide) (by omega)).trans ?_) | (refine (vF_g rfl rfl).trans ?_; refine (vle2 (x := (f 452 16 + 20) % 4294967296) (y := 900) (by decide) (by omega)).trans ?_))
    (first | (refine (vbnd_0 p).trans ?_) | (refine (vF_g rfl rfl).trans ?_; refine (vF_g rfl rfl).trans ?_; refine (vbnd_0 p).trans ?_) | (refine (vF_g rfl rfl).trans ?_; refine (vbnd_0 p).trans ?_))
    (first | (refine (vgt (x := 1) (y := 0) (by decide) (by decide)).trans ?_) | (refine (vF_g rfl rfl).trans ?_; refine (vF_g rfl rfl).trans ?_; refine (vgt (x := 1) (y := 0) (by decide) (by decide)).trans ?_) | (refine (vF_g rfl rfl).trans ?_; refine (vgt (x := 1) (y := 0) (by decide) (by decide)).trans ?_))
    (first | (refine (vbnd_1 e1).trans ?_) | (refine (vF_g rfl rfl).trans ?_; refine (vF_g rfl rfl).trans ?_; refine (vbnd_1 e1).trans ?_) | (refine (vF_g rfl rfl).trans ?_; refine (vbnd_1 e1).trans ?_))
    (first | (refine (vbnd_1 e2).trans ?_) | (refine (vF_g rfl rfl).trans ?_; refine (vF_g rfl rfl).trans ?_; refine (vbnd_1 e2).trans ?_) | (refine (vF_g rfl rfl).trans ?_; refine (vbnd_1 e2).trans ?_))
    (first | (refine (vbnd_1 e3).trans ?_) | (refine (vF_g rfl rfl).trans ?_; refine (vF_g rfl rfl).trans ?_; refine (vbnd_1 e3).trans ?_) | (refine (vF_g rfl rfl).trans ?_; refine (vbnd_1 e3).trans ?_))
    (first | (refine (vbnd_1 e4).trans ?_) | (refine (vF_g rfl rfl).trans ?_; refine (vF_g rfl rfl).trans ?_; refine (vbnd_1 e4).trans ?_) | (refine (vF_g rfl rfl).trans ?_; refine (vbnd_1 e4).trans ?_))
    (first | (refine (vbnd_1 e5).trans ?_) | (refine (vF_g rfl rfl).trans ?_; refine (vF_g rfl rfl).trans ?_; refine (vbnd_1 e5).trans ?_) | (refine (vF_g rfl rfl).trans ?_; refine (vbnd_1 e5).trans ?_))
    (first | (refine Eq.trans (b := some (((0, 0), vI (arL (arL (arL (arL (arL (vup f 452 6 0) (l4r a)) (l4r b)) (l4r c)) (l4r d)) (l4r e) 452 16), arL (arL (arL (arL (arL (vup f 452 6 0) (l4r a)) (l4r b)) (l4r c)) (l4r d)) (l4r e)) : VR)) rfl ?_) | (refine (vF_g rfl rfl).trans ?_; refine (vF_g rfl rfl).trans ?_; refine Eq.trans (b := some (((0, 0), vI (arL (arL (arL (arL (arL (vup f 452 6 0) (l4r a)) (l4r b)) (l4r c)) (l4r d)) (l4r e) 452 16), arL (arL (arL (arL (arL (vup f 452 6 0) (l4r a)) (l4r b)) (l4r c)) (l4r d)) (l4r e)) : VR)) rfl ?_) | (refine (vF_g rfl rfl).trans ?_; refine Eq.trans (b := some (((0, 0), vI (arL (arL (arL (arL (arL (vup f 452 6 0) (l4r a)) (l4r b)) (l4r c)) (l4r d)) (l4r e) 452 16), arL (arL (arL (arL (arL (vup f 452 6 0) (l4r a)) (l4r b)) (l4r c)) (l4r d)) (l4r e)) : VR)) rfl ?_))
    rw [h5]
  · have p := v_passes (D := D) (b := 0) (f := f) (Or.inl rfl)
    refine vM_go rfl rfl rfl rfl fun F hF => ?_
    (first | (refine (vgt (x := (f 452 16 + 20) % 4294967296) (y := 900) (by omega) (by omega)).trans ?_) | (refine (vF_g rfl rfl).trans ?_; refine (vF_g rfl rfl).trans ?_; refine (vgt (x := (f 452 16 + 20) % 4294967296) (y := 900) (by omega) (by omega)).trans ?_) | (refine (vF_g rfl rfl).trans ?_; refine (vgt (x := (f 452 16 + 20) % 4294967296) (y := 900) (by omega) (by omega)).trans ?_))
    (first | (refine (vbnd_0 p).trans ?_) | (refine (vF_g rfl rfl).trans ?_; refine (vF_g rfl rfl).trans ?_; refine (vbnd_0 p).trans ?_) | (refine (vF_g rfl rfl).trans ?_; refine (vbnd_0 p).trans ?_))
    (first | (refine (veq (x := 0) (y := 0) rfl).trans ?_) | (refine (vF_g rfl rfl).trans ?_; refine (vF_g rfl rfl).trans ?_; refine (veq (x := 0) (y := 0) rfl).trans ?_) | (refine (vF_g rfl rfl).trans ?_; refine (veq (x := 0) (y := 0) rfl).trans ?_))
    (first | (exact rfl) | (refine (vF_g rfl rfl).trans ?_; refine (vF_g rfl rfl).trans ?_; exact rfl) | (refine (vF_g rfl rfl).trans ?_; refine (vF_g rfl rfl).trans ?_; refine (vF_g rfl rfl).trans ?_; exact rfl) | (refine (vF_g rfl rfl).trans ?_; exact rfl))
/-! the bytes are the same -/
theorem toN_nI9 (m : Nat) : (nI m).toUInt32.toNat = m % 4294967296 := by
  unfold nI
  simp
theorem iand255 (x : Nat) : g_iand x 255 = x % 256 := by
  have e : g_iand x 255 = (nI x).toUInt32.toNat &&& (nI 255).toUInt32.toNat := by
    unfold g_iand toN
    (first | (exact rfl) | (refine (vF_g rfl rfl).trans ?_; refine (vF_g rfl rfl).trans ?_; exact rfl) | (refine (vF_g rfl rfl).trans ?_; refine (vF_g rfl rfl).trans ?_; refine (vF_g rfl rfl).trans ?_; exact rfl) | (refine (vF_g rfl rfl).trans ?_; exact rfl))
  have e1 : ∀ m : Nat, (nI m).toUInt32.toNat = m % 4294967296 := fun m => toN_nI9 m
  rw [e, e1, e1, show 255 % 4294967296 = 2 ^ 8 - 1 from rfl, Nat.and_two_pow_sub_one_eq_mod]
  omega
theorem sg_mod (x : Nat) (h : x < 4294967296) : ((x : Int) - sg x) % 256 = 0 := by
  unfold sg bi
  omega
theorem i2b_mod (x : Nat) : g_i2b x % 256 = x % 256 := by
  have h1 : sg (g_i2b x) = (nI x).toInt8.toInt := by
    unfold g_i2b
    rw [sg_toN, Int8.toInt_toInt32]
  have h2 : (nI x).toInt8.toInt = (nI x).toInt.bmod (2 ^ 8) := Int32.toInt_toInt8 _
  have h3 : (nI x).toInt = sg x := sg_toInt x
  have h4 := sg_mod (g_i2b x) (toN_lt _)
  have h5 : ((x : Int) - sg x) % 256 = 0 := by
    unfold sg bi
    omega
  rw [h2, h3] at h1
  have h6 : (sg x).bmod (2 ^ 8) % 256 = sg x % 256 := by
    have := Int.bmod_emod (x := sg x) (m := 2 ^ 8)
    exact this
  generalize (sg x).bmod (2 ^ 8) = u at h1 h6
  generalize sg x = s at h5 h6
  rw [h1] at h4
  omega
theorem cb_255 (x : Nat) : g_iand (cb x) 255 = g_iand x 255 := by
  rw [iand255, iand255]
  have e : cb x = g_i2b (g_i2b x) := by
    unfold cb
    rw [gU_1]
    (first | (exact rfl) | (refine (vF_g rfl rfl).trans ?_; refine (vF_g rfl rfl).trans ?_; exact rfl) | (refine (vF_g rfl rfl).trans ?_; refine (vF_g rfl rfl).trans ?_; refine (vF_g rfl rfl).trans ?_; exact rfl) | (refine (vF_g rfl rfl).trans ?_; exact rfl))
  rw [e]
  exact (i2b_mod (g_i2b x)).trans (i2b_mod x)
