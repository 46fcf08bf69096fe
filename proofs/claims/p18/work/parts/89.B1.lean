/-! loops: a head's state, what comes back to it -/
/-- locals with bounds; facts with bounds; kinds and their places that are written; sums or differences of two facts with bounds; is the first fact (else the first local) the one that runs; does it run up; the locals that are some long -/
abbrev An : Type := List (Nat × Int × Int) × List ((RK × Aff) × Int × Int) × List (Nat × Int × Int) × List ((RK × Aff) × (RK × Aff) × Int × Int × Int) × Bool × Bool × List Nat
/-- kinds and their places that may be written -/
abbrev Wrg : Type := List (Nat × Int × Int)
/-- a fact outside of what is written -/
noncomputable def yout1 (kd : Nat → Nat) (E : YE) (w : Wrg) (h : (RK × Aff) × Aff) : Bool := List.rec true (fun a _ ih => Bool.rec false ih (Bool.rec true (match yrg E h.1.2 with | some r => Bool.rec (ile (a.2.2 + 1) r.1) true (ile (r.2 + 1) a.2.1) | none => false) (Nat.beq a.1 (kdR kd h.1.1)))) w
noncomputable def yout (kd : Nat → Nat) (E : YE) (w : Wrg) (H : OV) : OV := List.rec (motive := fun _ => OV) [] (fun h _ ih => Bool.rec ih (h :: ih) (yout1 kd E w h)) H
/-- facts of known cells that weren't read yet: within the bounds of their places -/
noncomputable def ytyp (kd : Nat → Nat) (sh : Nat → Sh) (k : Nat) (o : Int) : Bool := Bool.rec false (Bool.rec false (match sh (kd k) with
  | .inl q => (match yat q.2 o.toNat with | some ft => Nat.beq ft 0 | none => false)
  | .inr (.inl q) => Nat.ble (o.toNat + 1) q.2
  | _ => false) (Nat.ble (k + 1) 466)) (ile 0 o)
noncomputable def ymat (kd : Nat → Nat) (sh : Nat → Sh) (bd : Nat → Int → Int × Int) (l : List ((RK × Aff) × Int × Int)) : YE × OV → YE × OV := List.rec (motive := fun _ => YE × OV → YE × OV) (fun p => p) (fun a _ ih p => match a.1.1 with
  | .inl k => Bool.rec (ih p) (ih ((yget p.2 p.1 (.inl k) (0, 0, a.1.2.2.2) (bd (kd k) a.1.2.2.2)).1, (yget p.2 p.1 (.inl k) (0, 0, a.1.2.2.2) (bd (kd k) a.1.2.2.2)).2.2)) (Bool.rec false (ytyp kd sh k a.1.2.2.2) (eAf a.1.2 (0, 0, a.1.2.2.2)))
  | _ => ih p) l
theorem ytyp_ok {kd : Nat → Nat} {sh : Nat → Sh} {rt : Nat → Nat → Nat} {bd : Nat → Int → Int × Int} {M : Mem} (hT : TI kd sh rt bd M) {k : Nat} {o : Int} (h : ytyp kd sh k o = true) : k < 466 ∧ ∃ i : Nat, o = (i : Int) ∧ (bd (kd k) o).1 ≤ rdI M k i ∧ rdI M k i ≤ (bd (kd k) o).2 := by
  obtain ⟨h1, h2⟩ := band h
  obtain ⟨h2, h3⟩ := band h2
  have h1 := ile_iff.mp h1
  have hk : k < 466 := Nat.le_of_ble_eq_true h2
  have eo : o = (o.toNat : Int) := (Int.toNat_of_nonneg h1).symm
  refine ⟨hk, o.toNat, eo, ?_⟩
  have key : (bd (kd k) (o.toNat : Int)).1 ≤ rdI M k o.toNat ∧ rdI M k o.toNat ≤ (bd (kd k) (o.toNat : Int)).2 := by
    cases hs : sh (kd k) with
    | inl q =>
      simp only [hs] at h3
      rw [yat_eq] at h3
      cases hq : q.2[o.toNat]? with
      | none => rw [hq] at h3; cases h3
      | some ft =>
        rw [hq] at h3
        have h3 : ft = 0 := Nat.eq_of_beq_eq_true h3
        subst h3
        obtain ⟨fs, f1, f2, f3⟩ := co_obj hT hk hs
        obtain ⟨x, e1, e2, e3, e4⟩ := f3 _ 0 hq
        have er : rdI M k o.toNat = sg x := by unfold rdI; rw [f1]; show avI (nth fs _) = _; rw [e1]; rfl
        rw [er]
        exact ⟨e3, e4⟩
    | inr q =>
      rcases q with q | q
      · simp only [hs] at h3
        obtain ⟨p, f1, f2, f3⟩ := co_arr hT hk hs
        have er : rdI M k o.toNat = sg (pget p o.toNat) := by unfold rdI; rw [f1]; rfl
        rw [er]
        exact f3 _ (Nat.le_of_ble_eq_true h3)
      · rcases q with q | q
        · simp only [hs] at h3; cases h3
        · simp only [hs] at h3; cases h3
  rw [← eo] at key
  exact key
theorem ymat_ok {kd : Nat → Nat} {sh : Nat → Sh} {rt : Nat → Nat → Nat} {bd : Nat → Int → Int × Int} {M : Mem} (hT : TI kd sh rt bd M) {l : List ((RK × Aff) × Int × Int)} : ∀ {G : List Int} {p : YE × OV}, yenv G p.1 → ovl kd G p.2 M → ∃ G', G <+: G' ∧ yenv G' (ymat kd sh bd l p).1 ∧ ovl kd G' (ymat kd sh bd l p).2 M := by
  induction l with
  | nil => intro G p h1 h2; exact ⟨G, List.prefix_refl _, h1, h2⟩
  | cons a l ih =>
    intro G p h1 h2
    obtain ⟨⟨r, x⟩, b⟩ := a
    rcases r with k | q
    · show ∃ G', G <+: G' ∧ yenv G' (Bool.rec (ymat kd sh bd l p) (ymat kd sh bd l ((yget p.2 p.1 (.inl k) (0, 0, x.2.2) (bd (kd k) x.2.2)).1, (yget p.2 p.1 (.inl k) (0, 0, x.2.2) (bd (kd k) x.2.2)).2.2)) (Bool.rec false (ytyp kd sh k x.2.2) (eAf x (0, 0, x.2.2))) : YE × OV).1 ∧ ovl kd G' (Bool.rec (ymat kd sh bd l p) (ymat kd sh bd l ((yget p.2 p.1 (.inl k) (0, 0, x.2.2) (bd (kd k) x.2.2)).1, (yget p.2 p.1 (.inl k) (0, 0, x.2.2) (bd (kd k) x.2.2)).2.2)) (Bool.rec false (ytyp kd sh k x.2.2) (eAf x (0, 0, x.2.2))) : YE × OV).2 M
      cases hb : (Bool.rec false (ytyp kd sh k x.2.2) (eAf x (0, 0, x.2.2)) : Bool) with
      | false => exact ih h1 h2
      | true =>
        obtain ⟨_, k2⟩ := band hb
        obtain ⟨q1, i, q2, q3, q4⟩ := ytyp_ok hT k2
        obtain ⟨G1, g1, g2, _, g4⟩ := yget_ok h1 h2 (r := .inl k) (ix := (0, 0, x.2.2)) (b := bd (kd k) x.2.2) (kc := k) (i := i) ⟨q1, rfl⟩ (by rw [yev_c, q2]) q3 q4
        obtain ⟨G2, u1, u2, u3⟩ := ih (p := ((yget p.2 p.1 (.inl k) (0, 0, x.2.2) (bd (kd k) x.2.2)).1, (yget p.2 p.1 (.inl k) (0, 0, x.2.2) (bd (kd k) x.2.2)).2.2)) g2 g4
        exact ⟨G2, g1.trans u1, u2, u3⟩
    · exact ih h1 h2
section LOOP
variable {kd : Nat → Nat} {sh : Nat → Sh} {rt : Nat → Nat → Nat} {bd : Nat → Int → Int × Int} {Wp PR : Nat → Int → Bool} {Inv : Mem → Prop} {M0 : Mem} {Ev : Env9} {Zo : Nat}
noncomputable def eKey (a b : RK × Aff) : Bool := Bool.rec false (eAf a.2 b.2) (eRK a.1 b.1)
theorem eKey_eq {a b : RK × Aff} (h : eKey a b = true) : a = b := by
  obtain ⟨h1, h2⟩ := band h
  obtain ⟨a1, a2⟩ := a
  obtain ⟨b1, b2⟩ := b
  have h1 : a1 = b1 := eRK_eq h1
  have h2 : a2 = b2 := eAf_eq h2
  rw [h1, h2]
/-- facts without those of these keys -/
noncomputable def yhas (ks : List (RK × Aff)) (q : RK × Aff) : Bool := List.rec false (fun a _ ih => Bool.rec ih true (eKey q a)) ks
noncomputable def ywo (ks : List (RK × Aff)) (H : OV) : OV := List.rec (motive := fun _ => OV) [] (fun h _ ih => Bool.rec (h :: ih) ih (yhas ks h.1)) H
theorem ywo_mem {ks : List (RK × Aff)} : ∀ {H : OV} {h : (RK × Aff) × Aff}, h ∈ ywo ks H → h ∈ H := by
  intro H
  induction H with
  | nil => intro h hm; cases hm
  | cons q H ih =>
    intro h hm
    have hm : h ∈ (Bool.rec (q :: ywo ks H) (ywo ks H) (yhas ks q.1) : OV) := hm
    cases hb : yhas ks q.1 with
    | true => rw [hb] at hm; exact List.mem_cons_of_mem _ (ih hm)
    | false =>
      rw [hb] at hm
      rcases List.mem_cons.mp hm with e | e
      · rw [e]; exact List.mem_cons_self
      · exact List.mem_cons_of_mem _ (ih e)
noncomputable def keysOf (l : List ((RK × Aff) × Int × Int)) : List (RK × Aff) := List.rec (motive := fun _ => List (RK × Aff)) [] (fun a _ ih => a.1 :: ih) l
/-- the locals that run: anything; the facts that stay -/
noncomputable def ypreJ (l : List Nat) (L : List SV) : List SV := List.rec L (fun a _ ih => yst ih a (sT 3)) l
noncomputable def ypreL (l : List (Nat × Int × Int)) (lg : List Nat) (L : List SV) : List SV := List.rec (ypreJ lg L) (fun a _ ih => yst ih a.1 (sT 0)) l
noncomputable def ypreH (kd : Nat → Nat) (an : An) (E : YE) (H : OV) : OV := ywo (keysOf an.2.1) (yout kd E an.2.2.1 H)
/-- the place of a fact -/
def Pl (kd : Nat → Nat) (G : List Int) (q : RK × Aff) (k i : Nat) : Prop := rkc kd G q.1 k ∧ yev G q.2 = some (i : Int)
theorem pl_fun {G : List Int} {q : RK × Aff} {k i k' i' : Nat} (h : Pl kd G q k i) (h' : Pl kd G q k' i') : k = k' ∧ i = i' := by
  refine ⟨rkc_fun h.1 h'.1, ?_⟩
  have e := h.2
  rw [h'.2] at e
  have := Option.some.inj e
  omega
theorem pl_mono {G G' : List Int} (h : G <+: G') {q : RK × Aff} {k i : Nat} (hq : Pl kd G q k i) : Pl kd G' q k i := ⟨rkc_mono h hq.1, yev_mono h hq.2⟩
/-- what a run through the head finds -/
def PrLo (l : List (Nat × Int × Int)) (L : List AV) : Prop := ∀ a ∈ l, ∃ x, nth L a.1 = vI x ∧ x < 4294967296 ∧ a.2.1 ≤ sg x ∧ sg x ≤ a.2.2
def PrFa (kd : Nat → Nat) (G : List Int) (l : List ((RK × Aff) × Int × Int)) (M : Mem) : Prop := ∀ a ∈ l, ∃ k i, Pl kd G a.1 k i ∧ a.2.1 ≤ rdI M k i ∧ rdI M k i ≤ a.2.2
def PrSu (kd : Nat → Nat) (G : List Int) (l : List ((RK × Aff) × (RK × Aff) × Int × Int × Int)) (M : Mem) : Prop := ∀ a ∈ l, ∃ k i k' i', Pl kd G a.1 k i ∧ Pl kd G a.2.1 k' i' ∧ a.2.2.2.1 ≤ rdI M k i + a.2.2.1 * rdI M k' i' ∧ rdI M k i + a.2.2.1 * rdI M k' i' ≤ a.2.2.2.2
def PrHd (kd : Nat → Nat) (G : List Int) (σ : SS) (an : An) (L : List AV) (M : Mem) : Prop := yenv G σ.1 ∧ svs kd G (ypreL an.1 an.2.2.2.2.2.2 σ.2.1) L ∧ ovl kd G (ypreH kd an σ.1 σ.2.2.2.1) M ∧ PrLo an.1 L ∧ PrFa kd G an.2.1 M ∧ PrSu kd G an.2.2.2.1 M
/-- the head's state -/
noncomputable def yhL (l : List (Nat × Int × Int)) : YE × List SV → YE × List SV := List.rec (motive := fun _ => YE × List SV → YE × List SV) (fun p => p) (fun a _ ih p => ih ((yfresh p.1 a.2.1 a.2.2).1, yst p.2 a.1 (sI (yfresh p.1 a.2.1 a.2.2).2))) l
noncomputable def yhH (l : List ((RK × Aff) × Int × Int)) : YE × OV → YE × OV := List.rec (motive := fun _ => YE × OV → YE × OV) (fun p => p) (fun a _ ih p => ih ((yfresh p.1 a.2.1 a.2.2).1, (a.1, (yfresh p.1 a.2.1 a.2.2).2) :: p.2)) l
noncomputable def yhS (l : List ((RK × Aff) × (RK × Aff) × Int × Int × Int)) (H : OV) : YE → Option YE := List.rec (motive := fun _ => YE → Option YE) (fun E => some E) (fun a _ ih E => match yfd a.1.1 a.1.2 H, yfd a.2.1.1 a.2.1.2 H with
  | some x, some y => Bool.rec (ih E) (match ynar (yadd E a.2.2.1 x y).1 (yadd E a.2.2.1 x y).2 a.2.2.2.1 a.2.2.2.2 with | some E' => ih E' | none => none) (Bool.rec false (Bool.rec (ieq a.2.2.1 (-1)) true (ieq a.2.2.1 1)) (Bool.rec false (ile a.2.2.2.2 2147483647) (ile (-2147483648) a.2.2.2.1)))
  | _, _ => ih E) l
theorem len_1 (a b : Nat) : a + 1 + b = a + (b + 1) := by omega
theorem nst_nth : ∀ (L : List AV) (i : Nat), nst L i (nth L i) = L := by
  intro L
  induction L with
  | nil => intro i; rfl
  | cons v L ih =>
    intro i
    cases i with
    | zero => rfl
    | succ i => show v :: nst L i (nth L i) = v :: L; rw [ih]
theorem app_at (G : List Int) (v : Int) : (G ++ [v])[G.length]? = some v := by simp
theorem yhL_ok {l : List (Nat × Int × Int)} : ∀ {G : List Int} {p : YE × List SV} {L : List AV}, yenv G p.1 → svs kd G p.2 L → PrLo l L → ∃ G', G <+: G' ∧ G'.length = G.length + l.length ∧ yenv G' (yhL l p).1 ∧ svs kd G' (yhL l p).2 L ∧ (∀ a l', l = a :: l' → ∃ x v, nth L a.1 = vI x ∧ sg x = v ∧ G'[G.length]? = some v) := by
  induction l with
  | nil => intro G p L h1 h2 _; exact ⟨G, List.prefix_refl _, rfl, h1, h2, fun a l' e => nomatch e⟩
  | cons a l ih =>
    intro G p L h1 h2 h3
    obtain ⟨x, v, e1, e2, e5, e3, e4⟩ : ∃ x v, nth L a.1 = vI x ∧ x < 4294967296 ∧ sg x = v ∧ a.2.1 ≤ v ∧ v ≤ a.2.2 := by
      obtain ⟨x, e1, e2, e3, e4⟩ := h3 a List.mem_cons_self
      exact ⟨x, sg x, e1, e2, rfl, e3, e4⟩
    obtain ⟨r1, r2⟩ := yfresh_ok h1 e3 e4
    have hp : G <+: G ++ [v] := List.prefix_append _ _
    have hs : svs kd (G ++ [v]) (yst p.2 a.1 (sI (yfresh p.1 a.2.1 a.2.2).2)) L := by
      rw [yst_eq]
      have := svs_set (show sv kd (G ++ [v]) (sI (yfresh p.1 a.2.1 a.2.2).2) (nth L a.1) from ⟨x, e1, e2, by rw [e5]; exact r2⟩) (svs_mono hp h2) a.1
      rw [nst_nth] at this
      exact this
    obtain ⟨G', g1, g2, g3, g4, -⟩ := ih (G := G ++ [v]) (p := ((yfresh p.1 a.2.1 a.2.2).1, yst p.2 a.1 (sI (yfresh p.1 a.2.1 a.2.2).2))) r1 hs (fun b hb => h3 b (List.mem_cons_of_mem _ hb))
    refine ⟨G', hp.trans g1, by rw [g2, List.length_append, List.length_cons]; exact len_1 _ _, g3, g4, fun b l' e => ?_⟩
    obtain ⟨rfl, rfl⟩ := List.cons.inj e
    exact ⟨x, v, e1, e5, pre_at g1 (app_at G v)⟩
theorem yhH_ok {G : List Int} {M : Mem} {l : List ((RK × Aff) × Int × Int)} : ∀ {p : YE × OV}, yenv G p.1 → ovl kd G p.2 M → PrFa kd G l M → ∃ G', G <+: G' ∧ yenv G' (yhH l p).1 ∧ ovl kd G' (yhH l p).2 M ∧ (∀ a l', l = a :: l' → ∃ k i, Pl kd G a.1 k i ∧ G'[G.length]? = some (rdI M k i)) := by
  induction l generalizing G with
  | nil => intro p h1 h2 _; exact ⟨G, List.prefix_refl _, h1, h2, fun a l' e => nomatch e⟩
  | cons a l ih =>
    intro p h1 h2 h3
    obtain ⟨k, i, e1, e2, e3⟩ := h3 a List.mem_cons_self
    obtain ⟨r1, r2⟩ := yfresh_ok h1 e2 e3
    have hp : G <+: G ++ [rdI M k i] := List.prefix_append _ _
    obtain ⟨G', g1, g2, g3, -⟩ := ih (G := G ++ [rdI M k i]) (p := ((yfresh p.1 a.2.1 a.2.2).1, (a.1, (yfresh p.1 a.2.1 a.2.2).2) :: p.2)) r1 (fun h hm => by
      rcases List.mem_cons.mp hm with e | e
      · subst e
        exact ⟨k, i, rkc_mono hp e1.1, yev_mono hp e1.2, r2⟩
      · exact ovl_mono hp h2 h e) (fun b hb => by
      obtain ⟨k', i', q1, q2, q3⟩ := h3 b (List.mem_cons_of_mem _ hb)
      exact ⟨k', i', pl_mono hp q1, q2, q3⟩)
    refine ⟨G', hp.trans g1, g2, g3, fun b l' e => ?_⟩
    cases e
    exact ⟨k, i, e1, pre_at g1 (by simp)⟩
theorem yhS_ok {M : Mem} {H : OV} {l : List ((RK × Aff) × (RK × Aff) × Int × Int × Int)} : ∀ {G : List Int} {E : YE}, yenv G E → ovl kd G H M → PrSu kd G l M → ∃ E' G', yhS l H E = some E' ∧ G <+: G' ∧ yenv G' E' := by
  induction l with
  | nil => intro G E h1 _ _; exact ⟨E, G, rfl, List.prefix_refl _, h1⟩
  | cons a l ih =>
    intro G E h1 h2 h3
    have hl : PrSu kd G l M := fun b hb => h3 b (List.mem_cons_of_mem _ hb)
    have any := ih h1 h2 hl
    show ∃ E' G', (match yfd a.1.1 a.1.2 H, yfd a.2.1.1 a.2.1.2 H with
      | some x, some y => Bool.rec (yhS l H E) (match ynar (yadd E a.2.2.1 x y).1 (yadd E a.2.2.1 x y).2 a.2.2.2.1 a.2.2.2.2 with | some E' => yhS l H E' | none => none) (Bool.rec false (Bool.rec (ieq a.2.2.1 (-1)) true (ieq a.2.2.1 1)) (Bool.rec false (ile a.2.2.2.2 2147483647) (ile (-2147483648) a.2.2.2.1)))
      | _, _ => yhS l H E : Option YE) = some E' ∧ _
    cases hx : yfd a.1.1 a.1.2 H with
    | none => exact any
    | some x =>
      cases hy : yfd a.2.1.1 a.2.1.2 H with
      | none => exact any
      | some y =>
        cases hb : (Bool.rec false (Bool.rec (ieq a.2.2.1 (-1)) true (ieq a.2.2.1 1)) (Bool.rec false (ile a.2.2.2.2 2147483647) (ile (-2147483648) a.2.2.2.1)) : Bool) with
        | false => simp only [hb]; exact any
        | true =>
          simp only [hb]
          obtain ⟨b1, b2⟩ := band hb
          obtain ⟨b3, b4⟩ := band b1
          have b3 := ile_iff.mp b3
          have b4 := ile_iff.mp b4
          have hs : a.2.2.1 ≠ 0 := by
            cases h1 : ieq a.2.2.1 1 with
            | true => have := ieq_iff.mp h1; omega
            | false => rw [h1] at b2; have := ieq_iff.mp (show ieq a.2.2.1 (-1) = true from b2); omega
          obtain ⟨k, i, k', i', q1, q2, q3, q4⟩ := h3 a List.mem_cons_self
          obtain ⟨k1, i1, p1, p2, p3⟩ := h2 _ (yfd_mem hx)
          obtain ⟨k2, i2, p4, p5, p6⟩ := h2 _ (yfd_mem hy)
          obtain ⟨rfl, rfl⟩ := pl_fun (q := a.1) ⟨p1, p2⟩ q1
          obtain ⟨rfl, rfl⟩ := pl_fun (q := a.2.1) ⟨p4, p5⟩ q2
          obtain ⟨G1, g1, g2, g3⟩ := yadd_ok h1 hs p3 p6
          rw [w32_id (by omega) (by omega)] at g3
          obtain ⟨E1, e1, e2⟩ := ynar_ok g2 g3 q3 q4
          obtain ⟨E2, G2, u1, u2, u3⟩ := ih e2 (ovl_mono g1 h2) (fun b hb9 => by
            obtain ⟨k3, i3, k4, i4, w1, w2, w3⟩ := hl b hb9
            exact ⟨k3, i3, k4, i4, pl_mono g1 w1, pl_mono g1 w2, w3⟩)
          exact ⟨E2, G2, by rw [e1]; exact u1, g1.trans u2, u3⟩
/-- the head's state, the ghost that runs -/
noncomputable def yhead (kd : Nat → Nat) (σ : SS) (an : An) : Option (SS × Nat) := match σ.2.2.1 with
  | [] => (let p := yhL an.1 (σ.1, ypreL an.1 an.2.2.2.2.2.2 σ.2.1)
    let q := yhH an.2.1 (p.1, ypreH kd an σ.1 σ.2.2.2.1)
    match yhS an.2.2.2.1 q.2 q.1 with
    | some E => some ((E, p.2, [], q.2, σ.2.2.2.2), Bool.rec (ylen σ.1) (ylen σ.1 + ylen an.1) an.2.2.2.2.1)
    | none => none)
  | _ => none
/-- the number that runs -/
def Var (kd : Nat → Nat) (G : List Int) (an : An) (L : List AV) (M : Mem) (v : Int) : Prop := match an.2.2.2.2.1 with
  | false => ∃ a l x, an.1 = a :: l ∧ nth L a.1 = vI x ∧ v = sg x ∧ a.2.1 ≤ v ∧ v ≤ a.2.2
  | true => ∃ a l k i, an.2.1 = a :: l ∧ Pl kd G a.1 k i ∧ v = rdI M k i ∧ a.2.1 ≤ v ∧ v ≤ a.2.2
theorem yhead_ok {G : List Int} {σ : SS} {an : An} {L : List AV} {M : Mem} {σh : SS} {gv : Nat} (h : yhead kd σ an = some (σh, gv)) (hP : PrHd kd G σ an L M) : ∃ G', G <+: G' ∧ Sat kd G' σh L [] M ∧ ∀ v, Var kd G an L M v → G'[gv]? = some v := by
  obtain ⟨E, Ls, Ss, H, z⟩ := σ
  rcases Ss with _ | ⟨a, Ss⟩
  · unfold yhead at h
    simp only at h
    obtain ⟨h1, h2, h3, h4, h5, h6⟩ := hP
    obtain ⟨G1, g1, g2, g3, g4, g5⟩ := yhL_ok (p := (E, ypreL an.1 an.2.2.2.2.2.2 Ls)) h1 h2 h4
    obtain ⟨G2, k1, k2, k3, k4⟩ := yhH_ok (p := ((yhL an.1 (E, ypreL an.1 an.2.2.2.2.2.2 Ls)).1, ypreH kd an E H)) g3 (ovl_mono g1 h3) (fun b hb => by
      obtain ⟨k', i', q1, q2, q3⟩ := h5 b hb
      exact ⟨k', i', pl_mono g1 q1, q2, q3⟩)
    obtain ⟨E3, G3, u1, u2, u3⟩ := yhS_ok k2 k3 (fun b hb => by
      obtain ⟨k3, i3, k4, i4, w1, w2, w3⟩ := h6 b hb
      exact ⟨k3, i3, k4, i4, pl_mono (g1.trans k1) w1, pl_mono (g1.trans k1) w2, w3⟩)
    rw [u1] at h
    cases h
    refine ⟨G3, (g1.trans k1).trans u2, ⟨u3, svs_mono (k1.trans u2) g4, trivial, ovl_mono u2 k3⟩, fun v hv => ?_⟩
    unfold Var at hv
    cases hb : an.2.2.2.2.1 with
    | false =>
      rw [hb] at hv
      obtain ⟨a, l, x, e1, e2, e3, _⟩ := hv
      obtain ⟨x', v', f1, f3, f2⟩ := g5 a l e1
      rw [e2] at f1
      have f1 : x = x' := Sum.inl.inj f1
      rw [e3, f1, f3]
      have e9 : ylen E = G.length := by rw [ylen_eq, h1.1]
      show G3[ylen E]? = _
      rw [e9]
      exact pre_at (k1.trans u2) f2
    | true =>
      rw [hb] at hv
      obtain ⟨a, l, k, i, e1, e2, e3, _⟩ := hv
      obtain ⟨k', i', f1, f2⟩ := k4 a l e1
      obtain ⟨rfl, rfl⟩ := pl_fun f1 (pl_mono g1 e2)
      rw [e3]
      have e9 : ylen E + ylen an.1 = G1.length := by rw [ylen_eq, ylen_eq, g2, h1.1]
      show G3[ylen E + ylen an.1]? = _
      rw [e9]
      exact pre_at u2 f2
  · cases h
end LOOP
