/-! ghosts with intervals, affine values of them -/
abbrev Aff : Type := Nat × Int × Int
/-- a ghost: least, greatest; (c1, g1, c2, g2): where c1 or c2 isn't 0 it is c1 * g1 + c2 * g2 -/
abbrev YG : Type := Int × Int × Int × Nat × Int × Nat
abbrev YE : Type := List YG
noncomputable def yat {α : Type} (l : List α) : Nat → Option α := List.rec (motive := fun _ => Nat → Option α) (fun _ => none) (fun x _ ih i => Nat.rec (some x) (fun j _ => ih j) i) l
theorem yat_eq {α : Type} : ∀ (l : List α) (i : Nat), yat l i = l[i]? := by
  intro l
  induction l with
  | nil => intro i; rfl
  | cons x t ih =>
    intro i
    cases i with
    | zero => rfl
    | succ i => rw [List.getElem?_cons_succ]; exact ih i
noncomputable def yst {α : Type} (l : List α) : Nat → α → List α := List.rec (motive := fun _ => Nat → α → List α) (fun _ _ => []) (fun x t ih i v => Nat.rec (v :: t) (fun j _ => x :: ih j v) i) l
theorem yst_eq {α : Type} : ∀ (l : List α) (i : Nat) (v : α), yst l i v = l.set i v := by
  intro l
  induction l with
  | nil => intro i v; rfl
  | cons x t ih =>
    intro i v
    cases i with
    | zero => rfl
    | succ i => show x :: yst t i v = x :: t.set i v; rw [ih]
noncomputable def ylen {α : Type} (l : List α) : Nat := List.rec 0 (fun _ _ ih => Nat.succ ih) l
theorem ylen_eq {α : Type} : ∀ (l : List α), ylen l = l.length := by
  intro l
  induction l with
  | nil => rfl
  | cons x t ih => show Nat.succ (ylen t) = _; rw [ih]; rfl
noncomputable def ile (a b : Int) : Bool := match b - a with | .ofNat _ => true | .negSucc _ => false
theorem ile_iff {a b : Int} : ile a b = true ↔ a ≤ b := by
  unfold ile
  cases h : b - a with
  | ofNat n =>
    refine ⟨fun _ => ?_, fun _ => rfl⟩
    have : (0 : Int) ≤ b - a := by rw [h]; exact Int.natCast_nonneg n
    omega
  | negSucc n =>
    refine ⟨(fun q => nomatch q), fun q => ?_⟩
    have h2 : b - a < 0 := by rw [h]; exact Int.negSucc_lt_zero n
    omega
theorem ile_f {a b : Int} : ile a b = false ↔ b < a := by
  cases h : ile a b with
  | true => have := ile_iff.mp h; exact ⟨(fun q => nomatch q), fun q => by omega⟩
  | false =>
    refine ⟨fun _ => ?_, fun _ => rfl⟩
    rcases Int.lt_or_le b a with q | q
    · exact q
    · rw [ile_iff.mpr q] at h; cases h
noncomputable def ieq (a b : Int) : Bool := Bool.rec false (ile b a) (ile a b)
theorem ieq_iff {a b : Int} : ieq a b = true ↔ a = b := by
  unfold ieq
  cases h : ile a b with
  | false => have := ile_f.mp h; exact ⟨fun q => (nomatch (show (false : Bool) = true from q)), fun q => by omega⟩
  | true =>
    have h1 := ile_iff.mp h
    show ile b a = true ↔ _
    rw [ile_iff]
    omega
theorem ieq_f {a b : Int} (h : ieq a b = false) : a ≠ b := fun q => by rw [ieq_iff.mpr q] at h; cases h
noncomputable def imin (a b : Int) : Int := Bool.rec b a (ile a b)
noncomputable def imax (a b : Int) : Int := Bool.rec a b (ile a b)
theorem imin_le1 (a b : Int) : imin a b ≤ a := by
  unfold imin
  cases h : ile a b with
  | true => exact Int.le_refl _
  | false => have := ile_f.mp h; show b ≤ a; omega
theorem imin_le2 (a b : Int) : imin a b ≤ b := by
  unfold imin
  cases h : ile a b with
  | true => exact ile_iff.mp h
  | false => exact Int.le_refl _
theorem le_imin {x a b : Int} (h1 : x ≤ a) (h2 : x ≤ b) : x ≤ imin a b := by
  unfold imin
  cases ile a b with
  | true => exact h1
  | false => exact h2
theorem imax_le1 (a b : Int) : a ≤ imax a b := by
  unfold imax
  cases h : ile a b with
  | true => exact ile_iff.mp h
  | false => exact Int.le_refl _
theorem imax_le2 (a b : Int) : b ≤ imax a b := by
  unfold imax
  cases h : ile a b with
  | true => exact Int.le_refl _
  | false => have := ile_f.mp h; show b ≤ a; omega
theorem imax_le {x a b : Int} (h1 : a ≤ x) (h2 : b ≤ x) : imax a b ≤ x := by
  unfold imax
  cases ile a b with
  | true => exact h2
  | false => exact h1
/-- what an affine value is -/
noncomputable def yev (G : List Int) (q : Aff) : Option Int := Bool.rec (match yat G q.1 with | some x => some (q.2.1 * x + q.2.2) | none => none) (some q.2.2) (ieq q.2.1 0)
theorem yev_c {G : List Int} {g : Nat} {o : Int} : yev G (g, 0, o) = some o := rfl
theorem yev_g {G : List Int} {q : Aff} {x : Int} (h : q.2.1 ≠ 0) (hx : G[q.1]? = some x) : yev G q = some (q.2.1 * x + q.2.2) := by
  unfold yev
  cases e : ieq q.2.1 0 with
  | true => exact absurd (ieq_iff.mp e) h
  | false =>
    show (match yat G q.1 with | some x => some (q.2.1 * x + q.2.2) | none => none) = _
    rw [yat_eq, hx]
theorem yev_gx {G : List Int} {g : Nat} {c o x : Int} (hx : G[g]? = some x) : yev G (g, c, o) = some (c * x + o) := by
  by_cases h : c = 0
  · rw [h, yev_c]; simp
  · exact yev_g (q := (g, c, o)) h hx
theorem yev_some {G : List Int} {q : Aff} {v : Int} (h : yev G q = some v) : (q.2.1 = 0 ∧ v = q.2.2) ∨ (q.2.1 ≠ 0 ∧ ∃ x, G[q.1]? = some x ∧ v = q.2.1 * x + q.2.2) := by
  unfold yev at h
  cases e : ieq q.2.1 0 with
  | true => rw [e] at h; exact Or.inl ⟨ieq_iff.mp e, (Option.some.inj h).symm⟩
  | false =>
    rw [e] at h
    have h : (match yat G q.1 with | some x => some (q.2.1 * x + q.2.2) | none => none) = some v := h
    rw [yat_eq] at h
    cases hx : G[q.1]? with
    | none => rw [hx] at h; cases h
    | some x => rw [hx] at h; exact Or.inr ⟨ieq_f e, x, rfl, (Option.some.inj h).symm⟩
theorem yev_mono {G G' : List Int} (h : G <+: G') {q : Aff} {v : Int} (hv : yev G q = some v) : yev G' q = some v := by
  rcases yev_some hv with ⟨h1, h2⟩ | ⟨h1, x, h2, h3⟩
  · obtain ⟨g, c, o⟩ := q
    have h1 : c = 0 := h1
    subst h1
    rw [yev_c, h2]
  · obtain ⟨t, rfl⟩ := h
    have hl := (List.getElem?_eq_some_iff.mp h2).1
    rw [yev_g h1 (by rw [List.getElem?_append_left hl]; exact h2), h3]
/-- a ghost's own sum -/
noncomputable def ydf (e : YG) : Bool := Bool.rec true (Bool.rec true false (ieq e.2.2.2.2.1 0)) (ieq e.2.2.1 0)
def yok (G : List Int) (e : YG) (x : Int) : Prop := e.1 ≤ x ∧ x ≤ e.2.1 ∧ (ydf e = true → ∃ a b, G[e.2.2.2.1]? = some a ∧ G[e.2.2.2.2.2]? = some b ∧ x = e.2.2.1 * a + e.2.2.2.2.1 * b)
def yenv (G : List Int) (E : YE) : Prop := G.length = E.length ∧ ∀ (g : Nat) (e : YG), E[g]? = some e → ∃ x, G[g]? = some x ∧ yok G e x
theorem pre_at {G G' : List Int} (h : G <+: G') {g : Nat} {x : Int} (hx : G[g]? = some x) : G'[g]? = some x := by
  obtain ⟨t, rfl⟩ := h
  have hl := (List.getElem?_eq_some_iff.mp hx).1
  rw [List.getElem?_append_left hl]
  exact hx
theorem yok_mono {G G' : List Int} (h : G <+: G') {e : YG} {x : Int} (hx : yok G e x) : yok G' e x :=
  ⟨hx.1, hx.2.1, fun q => by obtain ⟨a, b, h1, h2, h3⟩ := hx.2.2 q; exact ⟨a, b, pre_at h h1, pre_at h h2, h3⟩⟩
/-- one ghost more -/
theorem yenv_add {G : List Int} {E : YE} (hE : yenv G E) {e : YG} {x : Int} (hx : yok G e x) : yenv (G ++ [x]) (E ++ [e]) := by
  refine ⟨by rw [List.length_append, List.length_append, hE.1]; rfl, fun g e' hg => ?_⟩
  have hp : G <+: G ++ [x] := List.prefix_append _ _
  by_cases h : g < E.length
  · rw [List.getElem?_append_left h] at hg
    obtain ⟨y, h1, h2⟩ := hE.2 g e' hg
    exact ⟨y, pre_at hp h1, yok_mono hp h2⟩
  · have hl : g < (E ++ [e]).length := (List.getElem?_eq_some_iff.mp hg).1
    have hge : g = E.length := by rw [List.length_append] at hl; simp at hl; omega
    subst hge
    rw [List.getElem?_append_right (Nat.le_refl _)] at hg
    simp at hg
    subst hg
    exact ⟨x, by rw [← hE.1]; simp, yok_mono hp hx⟩
noncomputable def yfresh (E : YE) (lo hi : Int) : YE × Aff := (E ++ [(lo, hi, 0, 0, 0, 0)], (ylen E, 1, 0))
theorem ydf_0 {lo hi : Int} {g1 g2 : Nat} : ydf (lo, hi, 0, g1, 0, g2) = false := rfl
theorem yfresh_ok {G : List Int} {E : YE} (hE : yenv G E) {lo hi x : Int} (h1 : lo ≤ x) (h2 : x ≤ hi) : yenv (G ++ [x]) (yfresh E lo hi).1 ∧ yev (G ++ [x]) (yfresh E lo hi).2 = some x := by
  refine ⟨yenv_add hE ⟨h1, h2, fun q => nomatch (show (false : Bool) = true from q)⟩, ?_⟩
  have h9 : (G ++ [x])[ylen E]? = some x := by rw [ylen_eq, ← hE.1]; simp
  have := yev_gx (c := 1) (o := 0) h9
  rw [show (yfresh E lo hi).2 = (ylen E, 1, 0) from rfl, this]
  simp
/-- its least and greatest -/
noncomputable def yrg (E : YE) (q : Aff) : Option (Int × Int) := Bool.rec (match yat E q.1 with | some e => some (Bool.rec (q.2.1 * e.2.1 + q.2.2, q.2.1 * e.1 + q.2.2) (q.2.1 * e.1 + q.2.2, q.2.1 * e.2.1 + q.2.2) (ile 0 q.2.1)) | none => none) (some (q.2.2, q.2.2)) (ieq q.2.1 0)
theorem yrg_ok {G : List Int} {E : YE} (hE : yenv G E) {q : Aff} {v : Int} {r : Int × Int} (hv : yev G q = some v) (hr : yrg E q = some r) : r.1 ≤ v ∧ v ≤ r.2 := by
  unfold yrg at hr
  rcases yev_some hv with ⟨h1, h2⟩ | ⟨h1, x, h2, h3⟩
  · rw [ieq_iff.mpr h1] at hr
    have hr := Option.some.inj hr
    rw [← hr]
    exact ⟨Int.le_of_eq h2.symm, Int.le_of_eq h2⟩
  · cases e : ieq q.2.1 0 with
    | true => exact absurd (ieq_iff.mp e) h1
    | false =>
      rw [e] at hr
      have hr : (match yat E q.1 with | some e => some (Bool.rec (q.2.1 * e.2.1 + q.2.2, q.2.1 * e.1 + q.2.2) (q.2.1 * e.1 + q.2.2, q.2.1 * e.2.1 + q.2.2) (ile 0 q.2.1) : Int × Int) | none => none) = some r := hr
      rw [yat_eq] at hr
      cases he : E[q.1]? with
      | none => rw [he] at hr; cases hr
      | some e' =>
        rw [he] at hr
        have hr := Option.some.inj hr
        obtain ⟨y, g1, g2⟩ := hE.2 _ _ he
        rw [h2] at g1
        cases g1
        cases hc : ile 0 q.2.1 with
        | true =>
          rw [hc] at hr
          have hc := ile_iff.mp hc
          rw [← hr, h3]
          exact ⟨Int.add_le_add_right (Int.mul_le_mul_of_nonneg_left g2.1 hc) _, Int.add_le_add_right (Int.mul_le_mul_of_nonneg_left g2.2.1 hc) _⟩
        | false =>
          rw [hc] at hr
          have hc : q.2.1 ≤ 0 := Int.le_of_lt (ile_f.mp hc)
          rw [← hr, h3]
          exact ⟨Int.add_le_add_right (Int.mul_le_mul_of_nonpos_left hc g2.2.1) _, Int.add_le_add_right (Int.mul_le_mul_of_nonpos_left hc g2.1) _⟩
/-! narrowing -/
/-- a ghost is within l and h -/
noncomputable def yn1 (E : YE) (g : Nat) (l h : Int) : Option YE := match yat E g with
  | some e => Bool.rec none (some (yst E g (imax e.1 l, imin e.2.1 h, e.2.2))) (ile (imax e.1 l) (imin e.2.1 h))
  | none => none
theorem yn1_ok {G : List Int} {E : YE} (hE : yenv G E) {g : Nat} {x l h : Int} (hx : G[g]? = some x) (h1 : l ≤ x) (h2 : x ≤ h) : ∃ E', yn1 E g l h = some E' ∧ yenv G E' := by
  have hl : g < E.length := by rw [← hE.1]; exact (List.getElem?_eq_some_iff.mp hx).1
  obtain ⟨e, he⟩ : ∃ e, E[g]? = some e := ⟨E[g], List.getElem?_eq_getElem hl⟩
  obtain ⟨y, g1, g2⟩ := hE.2 _ _ he
  rw [hx] at g1
  cases g1
  unfold yn1
  rw [yat_eq, he]
  have e1 : imax e.1 l ≤ x := imax_le g2.1 h1
  have e2 : x ≤ imin e.2.1 h := le_imin g2.2.1 h2
  have e3 : ile (imax e.1 l) (imin e.2.1 h) = true := ile_iff.mpr (Int.le_trans e1 e2)
  refine ⟨yst E g (imax e.1 l, imin e.2.1 h, e.2.2), ?_, ?_⟩
  · show (Bool.rec none (some (yst E g (imax e.1 l, imin e.2.1 h, e.2.2))) (ile (imax e.1 l) (imin e.2.1 h)) : Option YE) = _
    rw [e3]
  · rw [yst_eq]
    refine ⟨by rw [List.length_set]; exact hE.1, fun k e' hk => ?_⟩
    by_cases q : k = g
    · subst q
      rw [List.getElem?_set_self hl] at hk
      cases hk
      exact ⟨x, hx, e1, e2, g2.2.2⟩
    · rw [List.getElem?_set_ne (fun w => q w.symm)] at hk
      exact hE.2 _ _ hk
/-- the value of an affine one is within l and h -/
noncomputable def yn2 (E : YE) (q : Aff) (l h : Int) : Option YE :=
  Bool.rec (Bool.rec (yn1 E q.1 (-((h - q.2.2) / (-q.2.1))) ((q.2.2 - l) / (-q.2.1))) (yn1 E q.1 (-((q.2.2 - l) / q.2.1)) ((h - q.2.2) / q.2.1)) (ile 0 q.2.1))
    (Bool.rec none (Bool.rec none (some E) (ile q.2.2 h)) (ile l q.2.2)) (ieq q.2.1 0)
theorem ceil_le {c x y : Int} (hc : 0 < c) (h : -(c * x) ≤ y) : -(y / c) ≤ x := by
  have h1 : -x ≤ y / c := Int.le_ediv_of_mul_le hc (by rw [Int.neg_mul, Int.mul_comm]; exact h)
  omega
theorem yn2_ok {G : List Int} {E : YE} (hE : yenv G E) {q : Aff} {v l h : Int} (hv : yev G q = some v) (h1 : l ≤ v) (h2 : v ≤ h) : ∃ E', yn2 E q l h = some E' ∧ yenv G E' := by
  unfold yn2
  rcases yev_some hv with ⟨k1, k2⟩ | ⟨k1, x, k2, k3⟩
  · rw [ieq_iff.mpr k1, ile_iff.mpr (show l ≤ q.2.2 by omega), ile_iff.mpr (show q.2.2 ≤ h by omega)]
    exact ⟨E, rfl, hE⟩
  · cases e : ieq q.2.1 0 with
    | true => exact absurd (ieq_iff.mp e) k1
    | false =>
      cases hc : ile 0 q.2.1 with
      | true =>
        have hc : 0 < q.2.1 := by have := ile_iff.mp hc; omega
        refine yn1_ok hE k2 (ceil_le hc (by omega)) (Int.le_ediv_of_mul_le hc (by rw [Int.mul_comm]; omega))
      | false =>
        have hc : 0 < -q.2.1 := by have := ile_f.mp hc; omega
        have e9 : -q.2.1 * x = -(q.2.1 * x) := Int.neg_mul _ _
        refine yn1_ok hE k2 (ceil_le hc (by rw [e9]; omega)) (Int.le_ediv_of_mul_le hc (by rw [Int.mul_comm, e9]; omega))
/-- what the sums say of one ghost's parts -/
noncomputable def yp1 (E : YE) (t : Nat) : Option YE := match yat E t with
  | some e => Bool.rec (some E) (match yat E e.2.2.2.1 with
    | some a => (match yat E e.2.2.2.2.2 with
      | some b => (match yrg E (e.2.2.2.1, e.2.2.1, 0), yrg E (e.2.2.2.2.2, e.2.2.2.2.1, 0) with
        | some ra, some rb => (match yn1 E t (ra.1 + rb.1) (ra.2 + rb.2) with
          | some E1 => (match yn2 E1 (e.2.2.2.1, e.2.2.1, 0) (e.1 - rb.2) (e.2.1 - rb.1) with
            | some E2 => yn2 E2 (e.2.2.2.2.2, e.2.2.2.2.1, 0) (e.1 - ra.2) (e.2.1 - ra.1)
            | none => none)
          | none => none)
        | _, _ => some E)
      | none => some E)
    | none => some E) (ydf e)
  | none => some E
theorem yp1_ok {G : List Int} {E : YE} (hE : yenv G E) (t : Nat) : ∃ E', yp1 E t = some E' ∧ yenv G E' := by
  unfold yp1
  rw [yat_eq]
  cases he : E[t]? with
  | none => exact ⟨E, rfl, hE⟩
  | some e =>
    obtain ⟨x, h1, h2⟩ := hE.2 _ _ he
    show ∃ E', (Bool.rec (some E) _ (ydf e) : Option YE) = some E' ∧ _
    cases hd : ydf e with
    | false => exact ⟨E, rfl, hE⟩
    | true =>
      obtain ⟨a, b, ha, hb, hx⟩ := h2.2.2 hd
      have hla : e.2.2.2.1 < E.length := by rw [← hE.1]; exact (List.getElem?_eq_some_iff.mp ha).1
      have hlb : e.2.2.2.2.2 < E.length := by rw [← hE.1]; exact (List.getElem?_eq_some_iff.mp hb).1
      simp only [yat_eq, List.getElem?_eq_getElem hla, List.getElem?_eq_getElem hlb]
      have va : yev G (e.2.2.2.1, e.2.2.1, 0) = some (e.2.2.1 * a) := by rw [yev_gx ha]; simp
      have vb : yev G (e.2.2.2.2.2, e.2.2.2.2.1, 0) = some (e.2.2.2.2.1 * b) := by rw [yev_gx hb]; simp
      cases ra : yrg E (e.2.2.2.1, e.2.2.1, 0) with
      | none => exact ⟨E, rfl, hE⟩
      | some ra' =>
        cases rb : yrg E (e.2.2.2.2.2, e.2.2.2.2.1, 0) with
        | none => exact ⟨E, rfl, hE⟩
        | some rb' =>
          have q1 := yrg_ok hE va ra
          have q2 := yrg_ok hE vb rb
          obtain ⟨E1, e1, k1⟩ := yn1_ok hE h1 (l := ra'.1 + rb'.1) (h := ra'.2 + rb'.2) (by omega) (by omega)
          obtain ⟨E2, e2, k2⟩ := yn2_ok k1 va (l := e.1 - rb'.2) (h := e.2.1 - rb'.1) (by have := h2.1; omega) (by have := h2.2.1; omega)
          obtain ⟨E3, e3, k3⟩ := yn2_ok k2 vb (l := e.1 - ra'.2) (h := e.2.1 - ra'.1) (by have := h2.1; omega) (by have := h2.2.1; omega)
          exact ⟨E3, by simp only [e1, e2, e3], k3⟩
/-- all sums, once -/
noncomputable def ypr (n : Nat) (E : YE) : Option YE := Nat.rec (some E) (fun t ih => match ih with | some E => yp1 E t | none => none) n
theorem ypr_ok {G : List Int} {E : YE} (hE : yenv G E) (n : Nat) : ∃ E', ypr n E = some E' ∧ yenv G E' := by
  induction n with
  | zero => exact ⟨E, rfl, hE⟩
  | succ n ih =>
    obtain ⟨E1, e1, h1⟩ := ih
    obtain ⟨E2, e2, h2⟩ := yp1_ok h1 n
    refine ⟨E2, ?_, h2⟩
    show (match ypr n E with | some E => yp1 E n | none => none) = some E2
    rw [e1]
    exact e2
noncomputable def yanyd (E : YE) : Bool := List.rec false (fun e _ ih => Bool.rec ih true (ydf e)) E
noncomputable def yprop (E : YE) : Option YE := Bool.rec (some E) (ypr (ylen E) E) (yanyd E)
theorem yprop_ok {G : List Int} {E : YE} (hE : yenv G E) : ∃ E', yprop E = some E' ∧ yenv G E' := by
  unfold yprop
  cases yanyd E with
  | false => exact ⟨E, rfl, hE⟩
  | true => exact ypr_ok hE _
noncomputable def ynar (E : YE) (q : Aff) (l h : Int) : Option YE := match yn2 E q l h with | some E => yprop E | none => none
theorem ynar_ok {G : List Int} {E : YE} (hE : yenv G E) {q : Aff} {v l h : Int} (hv : yev G q = some v) (h1 : l ≤ v) (h2 : v ≤ h) : ∃ E', ynar E q l h = some E' ∧ yenv G E' := by
  obtain ⟨E1, e1, k1⟩ := yn2_ok hE hv h1 h2
  obtain ⟨E2, e2, k2⟩ := yprop_ok k1
  exact ⟨E2, by unfold ynar; rw [e1]; exact e2, k2⟩
/-! compares -/
noncomputable def ysame (x y : Aff) : Bool := Bool.rec (Bool.rec false (Nat.beq x.1 y.1) (ieq x.2.1 y.2.1)) true (Bool.rec false (ieq y.2.1 0) (ieq x.2.1 0))
theorem ysame_ok {G : List Int} {x y : Aff} {a b : Int} (h : ysame x y = true) (ha : yev G x = some a) (hb : yev G y = some b) : a - b = x.2.2 - y.2.2 := by
  unfold ysame at h
  cases h0 : (Bool.rec false (ieq y.2.1 0) (ieq x.2.1 0) : Bool) with
  | true =>
    cases hx : ieq x.2.1 0 with
    | false => rw [hx] at h0; cases h0
    | true =>
      rw [hx] at h0
      have h0 : ieq y.2.1 0 = true := h0
      have hx := ieq_iff.mp hx
      have hy := ieq_iff.mp h0
      rcases yev_some ha with ⟨_, k2⟩ | ⟨k1, _⟩
      · rcases yev_some hb with ⟨_, k4⟩ | ⟨k3, _⟩
        · omega
        · exact absurd hy k3
      · exact absurd hx k1
  | false =>
    rw [h0] at h
    cases hc : ieq x.2.1 y.2.1 with
    | false => rw [hc] at h; cases h
    | true =>
      rw [hc] at h
      have h : Nat.beq x.1 y.1 = true := h
      have hc := ieq_iff.mp hc
      have hg := Nat.eq_of_beq_eq_true h
      rcases yev_some ha with ⟨k1, k2⟩ | ⟨k1, u, k2, k3⟩
      · rcases yev_some hb with ⟨_, k4⟩ | ⟨k3, _⟩
        · omega
        · exact absurd (by rw [← hc]; exact k1) k3
      · rcases yev_some hb with ⟨k3, _⟩ | ⟨_, w, k4, k5⟩
        · exact absurd (by rw [hc]; exact k3) k1
        · rw [hg, k4] at k2
          cases k2
          rw [hc] at k3
          omega
noncomputable def ycl (E : YE) (x y : Aff) (d : Int) : Option YE := match yrg E x, yrg E y with
  | some rx, some ry => (match ynar E x rx.1 (ry.2 - d) with | some E => ynar E y (rx.1 + d) ry.2 | none => none)
  | _, _ => some E
theorem ycl_ok {G : List Int} {E : YE} (hE : yenv G E) {x y : Aff} {a b d : Int} (ha : yev G x = some a) (hb : yev G y = some b) (h : a + d ≤ b) : ∃ E', ycl E x y d = some E' ∧ yenv G E' := by
  unfold ycl
  cases rx : yrg E x with
  | none => exact ⟨E, rfl, hE⟩
  | some rx' =>
    cases ry : yrg E y with
    | none => exact ⟨E, rfl, hE⟩
    | some ry' =>
      have q1 := yrg_ok hE ha rx
      have q2 := yrg_ok hE hb ry
      obtain ⟨E1, e1, k1⟩ := ynar_ok hE ha (l := rx'.1) (h := ry'.2 - d) (by omega) (by omega)
      obtain ⟨E2, e2, k2⟩ := ynar_ok k1 hb (l := rx'.1 + d) (h := ry'.2) (by omega) (by omega)
      exact ⟨E2, by simp only [e1, e2], k2⟩
/-- x < y; x ≤ y; x = y; x ≠ y: the narrower env, or none where it can't be -/
noncomputable def ylt (E : YE) (x y : Aff) : Option YE := Bool.rec (ycl E x y 1) (Bool.rec none (some E) (ile (x.2.2 + 1) y.2.2)) (ysame x y)
noncomputable def yle (E : YE) (x y : Aff) : Option YE := Bool.rec (ycl E x y 0) (Bool.rec none (some E) (ile x.2.2 y.2.2)) (ysame x y)
noncomputable def yeq (E : YE) (x y : Aff) : Option YE := Bool.rec (match ycl E x y 0 with | some E => ycl E y x 0 | none => none) (Bool.rec none (some E) (ieq x.2.2 y.2.2)) (ysame x y)
noncomputable def yneE (E : YE) (x y : Aff) : Option YE := match yrg E x, yrg E y with
  | some rx, some ry => Bool.rec (Bool.rec (some E) (ycl E x y 1) (ile rx.2 ry.1)) (ycl E y x 1) (ile ry.2 rx.1)
  | _, _ => some E
theorem yneE_ok {G : List Int} {E : YE} (hE : yenv G E) {x y : Aff} {a b : Int} (ha : yev G x = some a) (hb : yev G y = some b) (h : a ≠ b) : ∃ E', yneE E x y = some E' ∧ yenv G E' := by
  unfold yneE
  cases rx : yrg E x with
  | none => exact ⟨E, rfl, hE⟩
  | some rx' =>
    cases ry : yrg E y with
    | none => exact ⟨E, rfl, hE⟩
    | some ry' =>
      have q1 := yrg_ok hE ha rx
      have q2 := yrg_ok hE hb ry
      cases h1 : ile ry'.2 rx'.1 with
      | true =>
        have h1' := ile_iff.mp h1
        obtain ⟨E1, e1, k1⟩ := ycl_ok hE hb ha (d := 1) (by omega)
        exact ⟨E1, by simp only [h1]; exact e1, k1⟩
      | false =>
        cases h2 : ile rx'.2 ry'.1 with
        | true =>
          have h2' := ile_iff.mp h2
          obtain ⟨E1, e1, k1⟩ := ycl_ok hE ha hb (d := 1) (by omega)
          exact ⟨E1, by simp only [h1, h2]; exact e1, k1⟩
        | false => exact ⟨E, by simp only [h1, h2], hE⟩
noncomputable def yne (E : YE) (x y : Aff) : Option YE := Bool.rec (yneE E x y) (Bool.rec (some E) none (ieq x.2.2 y.2.2)) (ysame x y)
theorem ylt_ok {G : List Int} {E : YE} (hE : yenv G E) {x y : Aff} {a b : Int} (ha : yev G x = some a) (hb : yev G y = some b) (h : a < b) : ∃ E', ylt E x y = some E' ∧ yenv G E' := by
  unfold ylt
  cases hs : ysame x y with
  | false => exact ycl_ok hE ha hb (by omega)
  | true =>
    have := ysame_ok hs ha hb
    rw [ile_iff.mpr (show x.2.2 + 1 ≤ y.2.2 by omega)]
    exact ⟨E, rfl, hE⟩
theorem yle_ok {G : List Int} {E : YE} (hE : yenv G E) {x y : Aff} {a b : Int} (ha : yev G x = some a) (hb : yev G y = some b) (h : a ≤ b) : ∃ E', yle E x y = some E' ∧ yenv G E' := by
  unfold yle
  cases hs : ysame x y with
  | false => exact ycl_ok hE ha hb (by omega)
  | true =>
    have := ysame_ok hs ha hb
    rw [ile_iff.mpr (show x.2.2 ≤ y.2.2 by omega)]
    exact ⟨E, rfl, hE⟩
theorem yeq_ok {G : List Int} {E : YE} (hE : yenv G E) {x y : Aff} {a b : Int} (ha : yev G x = some a) (hb : yev G y = some b) (h : a = b) : ∃ E', yeq E x y = some E' ∧ yenv G E' := by
  unfold yeq
  cases hs : ysame x y with
  | false =>
    obtain ⟨E1, e1, k1⟩ := ycl_ok hE ha hb (d := 0) (by omega)
    obtain ⟨E2, e2, k2⟩ := ycl_ok k1 hb ha (d := 0) (by omega)
    exact ⟨E2, by show (match ycl E x y 0 with | some E => ycl E y x 0 | none => none) = _; rw [e1]; exact e2, k2⟩
  | true =>
    have := ysame_ok hs ha hb
    rw [ieq_iff.mpr (show x.2.2 = y.2.2 by omega)]
    exact ⟨E, rfl, hE⟩
theorem yne_ok {G : List Int} {E : YE} (hE : yenv G E) {x y : Aff} {a b : Int} (ha : yev G x = some a) (hb : yev G y = some b) (h : a ≠ b) : ∃ E', yne E x y = some E' ∧ yenv G E' := by
  unfold yne
  cases hs : ysame x y with
  | false => exact yneE_ok hE ha hb h
  | true =>
    have := ysame_ok hs ha hb
    cases hq : ieq x.2.2 y.2.2 with
    | false => exact ⟨E, rfl, hE⟩
    | true => have := ieq_iff.mp hq; exact absurd (show a = b by omega) h
