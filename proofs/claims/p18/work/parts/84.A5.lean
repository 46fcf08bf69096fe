/-! the memory: what is read, what a write changes -/
noncomputable def eRK (r r' : RK) : Bool := match r with
  | .inl a => (match r' with | .inl b => Nat.beq a b | _ => false)
  | .inr q => (match r' with | .inr w => Bool.rec false (Nat.beq q.2 w.2) (Nat.beq q.1 w.1) | _ => false)
theorem eRK_eq {r r' : RK} (h : eRK r r' = true) : r = r' := by
  rcases r with a | q <;> rcases r' with b | w
  · rw [Nat.eq_of_beq_eq_true (show Nat.beq a b = true from h)]
  · cases h
  · cases h
  · obtain ⟨h1, h2⟩ := band (show (Bool.rec false (Nat.beq q.2 w.2) (Nat.beq q.1 w.1) : Bool) = true from h)
    obtain ⟨q1, q2⟩ := q
    obtain ⟨w1, w2⟩ := w
    have h1 : q1 = w1 := Nat.eq_of_beq_eq_true h1
    have h2 : q2 = w2 := Nat.eq_of_beq_eq_true h2
    rw [h1, h2]
noncomputable def eAf (x y : Aff) : Bool := Bool.rec false (Bool.rec false (Nat.beq x.1 y.1) (ieq x.2.1 y.2.1)) (ieq x.2.2 y.2.2)
theorem eAf_eq {x y : Aff} (h : eAf x y = true) : x = y := by
  obtain ⟨h1, h2⟩ := band h
  obtain ⟨h2, h3⟩ := band h2
  obtain ⟨x1, x2, x3⟩ := x
  obtain ⟨y1, y2, y3⟩ := y
  have h1 : x3 = y3 := ieq_iff.mp h1
  have h2 : x2 = y2 := ieq_iff.mp h2
  have h3 : x1 = y1 := Nat.eq_of_beq_eq_true h3
  rw [h1, h2, h3]
/-- what is known to stand there -/
noncomputable def yfd (r : RK) (ix : Aff) (H : OV) : Option Aff := List.rec none (fun h _ ih => Bool.rec ih (some h.2) (Bool.rec false (eAf ix h.1.2) (eRK r h.1.1))) H
theorem yfd_mem {r : RK} {ix v : Aff} : ∀ {H : OV}, yfd r ix H = some v → ((r, ix), v) ∈ H := by
  intro H
  induction H with
  | nil => intro h; cases h
  | cons q H ih =>
    intro h
    have h : (Bool.rec (yfd r ix H) (some q.2) (Bool.rec false (eAf ix q.1.2) (eRK r q.1.1)) : Option Aff) = some v := h
    cases hb : (Bool.rec false (eAf ix q.1.2) (eRK r q.1.1) : Bool) with
    | false => rw [hb] at h; exact List.mem_cons_of_mem _ (ih h)
    | true =>
      rw [hb] at h
      cases h
      obtain ⟨h1, h2⟩ := band hb
      rw [eRK_eq h1, eAf_eq h2]
      exact List.mem_cons_self
section MEM
variable {kd : Nat → Nat} {sh : Nat → Sh} {rt : Nat → Nat → Nat} {bd : Nat → Int → Int × Int} {Wp : Nat → Int → Bool} {Inv : Mem → Prop} {M0 : Mem}
noncomputable def kdR (kd : Nat → Nat) (r : RK) : Nat := match r with | .inl c => kd c | .inr q => q.1
theorem rkc_kd {G : List Int} {r : RK} {k : Nat} (h : rkc kd G r k) : kd k = kdR kd r := by
  rcases r with c | q
  · rw [show k = c from h.2]; rfl
  · exact h.2.2
theorem rkc_fun {G : List Int} {r : RK} {k k' : Nat} (h : rkc kd G r k) (h' : rkc kd G r k') : k = k' := by
  rcases r with c | q
  · rw [show k = c from h.2, show k' = c from h'.2]
  · have h1 := h.2.1
    rw [h'.2.1] at h1
    have := Option.some.inj h1
    omega
/-- the two places surely differ -/
noncomputable def yoff (E : YE) (x y : Aff) : Bool := Bool.rec (Bool.rec false (Bool.rec true false (ieq x.2.2 y.2.2)) (ysame x y)) true (match yrg E x, yrg E y with | some a, some b => Bool.rec (ile (b.2 + 1) a.1) true (ile (a.2 + 1) b.1) | _, _ => false)
theorem yoff_ok {G : List Int} {E : YE} (hE : yenv G E) {x y : Aff} {a b : Int} (ha : yev G x = some a) (hb : yev G y = some b) (h : yoff E x y = true) : a ≠ b := by
  unfold yoff at h
  cases hr : (match yrg E x, yrg E y with | some a, some b => Bool.rec (ile (b.2 + 1) a.1) true (ile (a.2 + 1) b.1) | _, _ => false : Bool) with
  | true =>
    cases ra : yrg E x with
    | none => rw [ra] at hr; cases hr
    | some ra' =>
      cases rb : yrg E y with
      | none => rw [ra, rb] at hr; cases hr
      | some rb' =>
        rw [ra, rb] at hr
        have hr : (Bool.rec (ile (rb'.2 + 1) ra'.1) true (ile (ra'.2 + 1) rb'.1) : Bool) = true := hr
        have q1 := yrg_ok hE ha ra
        have q2 := yrg_ok hE hb rb
        cases hx : ile (ra'.2 + 1) rb'.1 with
        | true => have := ile_iff.mp hx; omega
        | false => rw [hx] at hr; have := ile_iff.mp (show ile (rb'.2 + 1) ra'.1 = true from hr); omega
  | false =>
    rw [hr] at h
    have h : (Bool.rec false (Bool.rec true false (ieq x.2.2 y.2.2)) (ysame x y) : Bool) = true := h
    obtain ⟨h1, h2⟩ := band h
    have := ysame_ok h1 ha hb
    cases hq : ieq x.2.2 y.2.2 with
    | true => rw [hq] at h2; cases h2
    | false => have := ieq_f hq; omega
/-- a fact that a write at r, ix can't touch -/
noncomputable def yneq (r r' : RK) : Bool := match r with | .inl a => (match r' with | .inl b => Bool.rec true false (Nat.beq a b) | _ => false) | _ => false
noncomputable def ykp (kd : Nat → Nat) (E : YE) (r : RK) (ix : Aff) (h : (RK × Aff) × Aff) : Bool := Bool.rec (Bool.rec (yneq r h.1.1) true (yoff E h.1.2 ix)) true (Bool.rec true false (Nat.beq (kdR kd h.1.1) (kdR kd r)))
theorem ykp_ok {G : List Int} {E : YE} (hE : yenv G E) {r : RK} {ix : Aff} {h : (RK × Aff) × Aff} (hk : ykp kd E r ix h = true) {k k' i i' : Nat} (h1 : rkc kd G r k) (h2 : yev G ix = some (i : Int)) (h3 : rkc kd G h.1.1 k') (h4 : yev G h.1.2 = some (i' : Int)) : k' ≠ k ∨ i' ≠ i := by
  unfold ykp at hk
  cases hb : (Bool.rec true false (Nat.beq (kdR kd h.1.1) (kdR kd r)) : Bool) with
  | true =>
    refine Or.inl fun e => ?_
    subst e
    have e2 := (rkc_kd h3).symm.trans (rkc_kd h1)
    rw [e2, Nat.beq_refl] at hb
    cases hb
  | false =>
    rw [hb] at hk
    have hk : (Bool.rec (yneq r h.1.1) true (yoff E h.1.2 ix) : Bool) = true := hk
    cases ho : yoff E h.1.2 ix with
    | true =>
      refine Or.inr fun e => ?_
      subst e
      exact yoff_ok hE h4 h2 ho rfl
    | false =>
      rw [ho] at hk
      obtain ⟨⟨rr, hx⟩, hv⟩ := h
      rcases r with a | q
      · rcases rr with b | w
        · refine Or.inl fun e => ?_
          have e1 : k = a := h1.2
          have e2 : k' = b := h3.2
          have hk : (Bool.rec true false (Nat.beq a b) : Bool) = true := hk
          rw [show a = b by omega, Nat.beq_refl] at hk
          cases hk
        · cases hk
      · cases hk
noncomputable def ydrop (kd : Nat → Nat) (E : YE) (r : RK) (ix : Aff) (H : OV) : OV := List.rec (motive := fun _ => OV) [] (fun h _ ih => Bool.rec ih (h :: ih) (ykp kd E r ix h)) H
theorem ydrop_mem {E : YE} {r : RK} {ix : Aff} : ∀ {H : OV} {h : (RK × Aff) × Aff}, h ∈ ydrop kd E r ix H → h ∈ H ∧ ykp kd E r ix h = true := by
  intro H
  induction H with
  | nil => intro h hm; cases hm
  | cons q H ih =>
    intro h hm
    have hm : h ∈ (Bool.rec (ydrop kd E r ix H) (q :: ydrop kd E r ix H) (ykp kd E r ix q) : OV) := hm
    cases hb : ykp kd E r ix q with
    | false => rw [hb] at hm; obtain ⟨h1, h2⟩ := ih hm; exact ⟨List.mem_cons_of_mem _ h1, h2⟩
    | true =>
      rw [hb] at hm
      rcases List.mem_cons.mp hm with e | e
      · rw [e]; exact ⟨List.mem_cons_self, hb⟩
      · obtain ⟨h1, h2⟩ := ih e; exact ⟨List.mem_cons_of_mem _ h1, h2⟩
/-- all places that an affine value may name -/
noncomputable def yall (n : Nat) (lo : Int) (p : Int → Bool) : Bool := Nat.rec true (fun j ih => Bool.rec false ih (p (lo + (j : Int)))) n
theorem yall_ok {p : Int → Bool} {lo : Int} : ∀ {n : Nat}, yall n lo p = true → ∀ v : Int, lo ≤ v → v < lo + n → p v = true := by
  intro n
  induction n with
  | zero => intro _ v h1 h2; omega
  | succ n ih =>
    intro h v h1 h2
    obtain ⟨h3, h4⟩ := band (show (Bool.rec false (yall n lo p) (p (lo + (n : Int))) : Bool) = true from h)
    by_cases e : v = lo + n
    · rw [e]; exact h3
    · exact ih h4 v h1 (by omega)
noncomputable def yrgn (e : YG) (p : Int → Bool) : Bool := yall (e.2.1 + 1 - e.1).toNat e.1 p
noncomputable def yix (E : YE) (q : Aff) (p : Int → Bool) : Bool := Bool.rec (match yat E q.1 with
  | some e => Bool.rec (yrgn e fun x => p (q.2.1 * x + q.2.2)) (match yat E e.2.2.2.1 with
    | some a => (match yat E e.2.2.2.2.2 with
      | some b => yrgn a fun x => yrgn b fun y => p (q.2.1 * (e.2.2.1 * x + e.2.2.2.2.1 * y) + q.2.2)
      | none => false)
    | none => false) (ydf e)
  | none => false) (p q.2.2) (ieq q.2.1 0)
theorem yrgn_ok {G : List Int} {e : YG} {x : Int} {p : Int → Bool} (h : yrgn e p = true) (hx : yok G e x) : p x = true := yall_ok h x hx.1 (by have := hx.1; have := hx.2.1; omega)
theorem yix_ok {G : List Int} {E : YE} (hE : yenv G E) {q : Aff} {v : Int} {p : Int → Bool} (h : yix E q p = true) (hv : yev G q = some v) : p v = true := by
  unfold yix at h
  rcases yev_some hv with ⟨k1, k2⟩ | ⟨k1, x, k2, k3⟩
  · rw [ieq_iff.mpr k1] at h
    rw [k2]
    exact h
  · cases e1 : ieq q.2.1 0 with
    | true => exact absurd (ieq_iff.mp e1) k1
    | false =>
      rw [e1, yat_eq] at h
      cases he : E[q.1]? with
      | none => rw [he] at h; cases h
      | some e =>
        rw [he] at h
        obtain ⟨y, g1, g2⟩ := hE.2 _ _ he
        rw [k2] at g1
        cases g1
        have h : (Bool.rec (yrgn e fun x => p (q.2.1 * x + q.2.2)) (match yat E e.2.2.2.1 with | some a => (match yat E e.2.2.2.2.2 with | some b => yrgn a fun x => yrgn b fun y => p (q.2.1 * (e.2.2.1 * x + e.2.2.2.2.1 * y) + q.2.2) | none => false) | none => false) (ydf e) : Bool) = true := h
        cases hd : ydf e with
        | false =>
          rw [hd] at h
          rw [k3]
          exact yrgn_ok (p := fun x => p (q.2.1 * x + q.2.2)) h g2
        | true =>
          rw [hd] at h
          obtain ⟨a, b, ha, hb, hx⟩ := g2.2.2 hd
          have hla : e.2.2.2.1 < E.length := by rw [← hE.1]; exact (List.getElem?_eq_some_iff.mp ha).1
          have hlb : e.2.2.2.2.2 < E.length := by rw [← hE.1]; exact (List.getElem?_eq_some_iff.mp hb).1
          obtain ⟨a', a1, a2⟩ := hE.2 _ _ (List.getElem?_eq_getElem hla)
          obtain ⟨b', b1, b2⟩ := hE.2 _ _ (List.getElem?_eq_getElem hlb)
          rw [ha] at a1
          rw [hb] at b1
          cases a1
          cases b1
          simp only [yat_eq, List.getElem?_eq_getElem hla, List.getElem?_eq_getElem hlb] at h
          have h3 := yrgn_ok (p := fun x => yrgn (E[e.2.2.2.2.2]) fun y => p (q.2.1 * (e.2.2.1 * x + e.2.2.2.2.1 * y) + q.2.2)) h a2
          have h4 := yrgn_ok (p := fun y => p (q.2.1 * (e.2.2.1 * a + e.2.2.2.2.1 * y) + q.2.2)) h3 b2
          rw [k3, hx]
          exact h4
/-- a write, as it is told: one place has a new number -/
def Wrt (M M' : Mem) (k i : Nat) (x : Int) : Prop := rdI M' k i = x ∧ ∀ k' i' : Nat, k' < 466 → (k' ≠ k ∨ i' ≠ i) → rdI M' k' i' = rdI M k' i'
theorem ovl_w {G : List Int} {E : YE} (hE : yenv G E) {H : OV} {M M' : Mem} {r : RK} {ix v : Aff} {k i : Nat} {x : Int} (hw : Wrt M M' k i x) (h1 : rkc kd G r k) (h2 : yev G ix = some (i : Int)) (h3 : yev G v = some x) (ho : ovl kd G H M) : ovl kd G (((r, ix), v) :: ydrop kd E r ix H) M' := by
  intro h hm
  rcases List.mem_cons.mp hm with e | e
  · subst e
    exact ⟨k, i, h1, h2, by rw [hw.1]; exact h3⟩
  · obtain ⟨g1, g2⟩ := ydrop_mem e
    obtain ⟨k', i', q1, q2, q3⟩ := ho h g1
    exact ⟨k', i', q1, q2, by rw [hw.2 k' i' q1.1 (ykp_ok hE g2 h1 h2 q1 q2)]; exact q3⟩
theorem ovl_d {G : List Int} {E : YE} (hE : yenv G E) {H : OV} {M M' : Mem} {r : RK} {ix : Aff} {k i : Nat} {x : Int} (hw : Wrt M M' k i x) (h1 : rkc kd G r k) (h2 : yev G ix = some (i : Int)) (ho : ovl kd G H M) : ovl kd G (ydrop kd E r ix H) M' := by
  intro h e
  obtain ⟨g1, g2⟩ := ydrop_mem e
  obtain ⟨k', i', q1, q2, q3⟩ := ho h g1
  exact ⟨k', i', q1, q2, by rw [hw.2 k' i' q1.1 (ykp_ok hE g2 h1 h2 q1 q2)]; exact q3⟩
/-- what hangs on some places alone -/
def Hang (kd : Nat → Nat) (PR : Nat → Int → Bool) (Inv : Mem → Prop) : Prop := ∀ M M' : Mem, Inv M → (∀ k : Nat, k < 466 → ∀ i : Nat, PR (kd k) i = true → rdI M' k i = rdI M k i) → Inv M'
theorem gm_w {PR : Nat → Int → Bool} (hI : Hang kd PR Inv) {M M' : Mem} {k i : Nat} {x : Int} (hw : Wrt M M' k i x) (hT : TI kd sh rt bd M') (hp : PR (kd k) i = false) (hq : Wp (kd k) i = true) (hM : GM kd sh rt bd Wp Inv M0 M) : GM kd sh rt bd Wp Inv M0 M' := by
  refine ⟨hT, hI M M' hM.2.1 (fun k' hk i' hi => hw.2 k' i' hk ?_), fun k' hk i' hi => ?_⟩
  · by_cases e1 : k' = k
    · by_cases e2 : i' = i
      · subst e1; subst e2; rw [hp] at hi; cases hi
      · exact Or.inr e2
    · exact Or.inl e1
  · rw [hw.2 k' i' hk ?_]
    · exact hM.2.2 k' hk i' hi
    · by_cases e1 : k' = k
      · by_cases e2 : i' = i
        · subst e1; subst e2; rw [hq] at hi; cases hi
        · exact Or.inr e2
      · exact Or.inl e1
theorem ti_set {M : Mem} {k : Nat} {c : Cel} (hT : TI kd sh rt bd M) (hk : k < 466) (hc : cOK kd sh rt bd k c) : TI kd sh rt bd (tset 9 M k c) := by
  intro k' hk'
  rw [tget_tset 9 M k k' c (show k < 512 by omega) (show k' < 512 by omega)]
  by_cases e : k' = k
  · rw [if_pos e, e]; exact hc
  · rw [if_neg e]; exact hT k' hk'
theorem rdI_other {M : Mem} {k k' i : Nat} {c : Cel} (hk : k < 466) (hk' : k' < 466) (h : k' ≠ k) : rdI (tset 9 M k c) k' i = rdI M k' i := by
  unfold rdI
  rw [tget_tset 9 M k k' c (show k < 512 by omega) (show k' < 512 by omega), if_neg h]
theorem rdI_self {M : Mem} {k i : Nat} {c : Cel} (hk : k < 466) : rdI (tset 9 M k c) k i = rdC c i := by
  unfold rdI
  rw [tget_tset 9 M k k c (show k < 512 by omega) (show k < 512 by omega), if_pos rfl]
theorem wrt_c {M : Mem} {k i : Nat} {c c' : Cel} {x : Int} (hk : k < 466) (hc : tget 9 M k = c) (h1 : rdC c' i = x) (h2 : ∀ i', i' ≠ i → rdC c' i' = rdC c i') : Wrt M (tset 9 M k c') k i x := by
  refine ⟨by rw [rdI_self hk]; exact h1, fun k' i' hk' h => ?_⟩
  by_cases e : k' = k
  · subst e
    rw [rdI_self hk, h2 i' (h.resolve_left (fun q => q rfl))]
    unfold rdI
    rw [hc]
  · exact rdI_other hk hk' e
theorem wrt_o {M : Mem} {k i x ci : Nat} {fs : List AV} (hk : k < 466) (hc : tget 9 M k = cO ci fs) (hi : i < fs.length) : Wrt M (tset 9 M k (cO ci (nst fs i (vI x)))) k i (sg x) := by
  refine wrt_c hk hc ?_ (fun i' h => ?_)
  · show avI (nth (nst fs i (vI x)) i) = _
    rw [nth_nst, if_pos ⟨rfl, hi⟩]
    rfl
  · show avI (nth (nst fs i (vI x)) i') = avI (nth fs i')
    rw [nth_nst, if_neg (fun q => h q.1)]
theorem wrt_j {M : Mem} {k i x ci : Nat} {fs : List AV} (hk : k < 466) (hc : tget 9 M k = cO ci fs) (hi : i < fs.length) : Wrt M (tset 9 M k (cO ci (nst fs i (vJ x)))) k i (lsg x) := by
  refine wrt_c hk hc ?_ (fun i' h => ?_)
  · show avI (nth (nst fs i (vJ x)) i) = _
    rw [nth_nst, if_pos ⟨rfl, hi⟩]
    rfl
  · show avI (nth (nst fs i (vJ x)) i') = avI (nth fs i')
    rw [nth_nst, if_neg (fun q => h q.1)]
theorem wrt_a {M : Mem} {k i x t N p : Nat} (hk : k < 466) (hc : tget 9 M k = cI t N p []) (hx : x < 4294967296) : Wrt M (tset 9 M k (cI t N (pset p i x) [])) k i (sg x) := by
  refine wrt_c hk hc ?_ (fun i' h => ?_)
  · show sg (pget (pset p i x) i) = _
    rw [pget_pset, if_pos rfl, Nat.mod_eq_of_lt hx]
  · show sg (pget (pset p i x) i') = sg (pget p i')
    rw [pget_pset, if_neg h]
theorem wrt_l {M : Mem} {k i x : Nat} {xs : List AV} (hk : k < 466) (hc : tget 9 M k = cL xs) (hi : i < xs.length) : Wrt M (tset 9 M k (cL (nst xs i (vJ x)))) k i (lsg x) := by
  refine wrt_c hk hc ?_ (fun i' h => ?_)
  · show avJ (nth (nst xs i (vJ x)) i) = _
    rw [nth_nst, if_pos ⟨rfl, hi⟩]
    rfl
  · show avJ (nth (nst xs i (vJ x)) i') = avJ (nth xs i')
    rw [nth_nst, if_neg (fun q => h q.1)]
end MEM
