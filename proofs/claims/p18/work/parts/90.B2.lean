/-! what comes to a head fits it -/
section BACK
variable {kd : Nat → Nat}
noncomputable def ysc (n : Nat) (q : Aff) : Bool := Bool.rec (Nat.ble (q.1 + 1) n) true (ieq q.2.1 0)
noncomputable def yscR (n : Nat) (r : RK) : Bool := match r with | .inl _ => true | .inr q => Nat.ble (q.2 + 1) n
theorem pre_dn {G0 G : List Int} (h : G0 <+: G) {g : Nat} {x : Int} (hg : g < G0.length) (hx : G[g]? = some x) : G0[g]? = some x := by
  obtain ⟨t, rfl⟩ := h
  rw [List.getElem?_append_left hg] at hx
  exact hx
theorem yev_dn {G0 G : List Int} (h : G0 <+: G) {q : Aff} {v : Int} (hs : ysc G0.length q = true) (hv : yev G q = some v) : yev G0 q = some v := by
  unfold ysc at hs
  rcases yev_some hv with ⟨h1, h2⟩ | ⟨h1, x, h2, h3⟩
  · obtain ⟨g, c, o⟩ := q
    have h1 : c = 0 := h1
    subst h1
    rw [yev_c, h2]
  · cases e : ieq q.2.1 0 with
    | true => exact absurd (ieq_iff.mp e) h1
    | false =>
      rw [e] at hs
      rw [yev_g h1 (pre_dn h (Nat.le_of_ble_eq_true hs) h2), h3]
theorem rkc_dn {G0 G : List Int} (h : G0 <+: G) {r : RK} {k : Nat} (hs : yscR G0.length r = true) (hr : rkc kd G r k) : rkc kd G0 r k := by
  obtain ⟨h0, h1⟩ := hr
  rcases r with c | q
  · exact ⟨h0, h1⟩
  · exact ⟨h0, pre_dn h (Nat.le_of_ble_eq_true hs) h1.1, h1.2⟩
noncomputable def yscK (n : Nat) (q : RK × Aff) : Bool := Bool.rec false (ysc n q.2) (yscR n q.1)
theorem pl_dn {G0 G : List Int} (h : G0 <+: G) {q : RK × Aff} {k i : Nat} (hs : yscK G0.length q = true) (hq : Pl kd G q k i) : Pl kd G0 q k i := by
  obtain ⟨h1, h2⟩ := band hs
  exact ⟨rkc_dn h h1 hq.1, yev_dn h h2 hq.2⟩
noncomputable def isT0 (b : SV) (t : Nat) : Bool := match b with | .inr (.inr (.inr (.inr (.inr u)))) => Nat.beq t u | _ => false
theorem isT0_eq {a : SV} {t : Nat} (h : isT0 a t = true) : a = sT t := by
  rcases a with q | q | q | q | q | u
  · cases h
  · cases h
  · cases h
  · cases h
  · cases h
  · rw [Nat.eq_of_beq_eq_true (show Nat.beq t u = true from h)]
/-- the value that stood here before a loop, and the one that stands now -/
noncomputable def ylk (n : Nat) (a b : SV) : Bool := match a with
  | .inl q => (match b with | .inl w => Bool.rec false (ysc n q) (eAf q w) | _ => false)
  | .inr (.inl q) => (match b with | .inr (.inl w) => Bool.rec false (ysc n q) (eAf q w) | _ => false)
  | .inr (.inr (.inl r)) => (match b with | .inr (.inr (.inl w)) => Bool.rec false (yscR n r) (eRK r w) | _ => false)
  | .inr (.inr (.inr (.inl w))) => (match b with | .inr (.inr (.inr (.inl u))) => Nat.beq w u | _ => false)
  | .inr (.inr (.inr (.inr (.inl _)))) => false
  | .inr (.inr (.inr (.inr (.inr t)))) => (match t with
    | 0 => snot (sC2 b)
    | 3 => sP [] 1 b
    | _ => isT0 b t)
theorem ylk_ok {G0 G : List Int} (h : G0 <+: G) {a b : SV} {v : AV} (hl : ylk G0.length a b = true) (hb : sv kd G b v) : sv kd G0 a v := by
  rcases a with q | q | r | w | q | t
  · rcases b with w | w | w | w | w | w
    · obtain ⟨h1, h2⟩ := band (show (Bool.rec false (ysc G0.length q) (eAf q w) : Bool) = true from hl)
      have h1 := eAf_eq h1
      subst h1
      obtain ⟨x, e1, e2, e3⟩ := hb
      exact ⟨x, e1, e2, yev_dn h h2 e3⟩
    all_goals cases hl
  · rcases b with w | w | w | w | w | w
    · cases hl
    · obtain ⟨h1, h2⟩ := band (show (Bool.rec false (ysc G0.length q) (eAf q w) : Bool) = true from hl)
      have h1 := eAf_eq h1
      subst h1
      obtain ⟨x, e1, e3⟩ := hb
      exact ⟨x, e1, yev_dn h h2 e3⟩
    all_goals cases hl
  · rcases b with w | w | w | w | w | w
    · cases hl
    · cases hl
    · obtain ⟨h1, h2⟩ := band (show (Bool.rec false (yscR G0.length r) (eRK r w) : Bool) = true from hl)
      have h1 := eRK_eq h1
      subst h1
      obtain ⟨x, e1, e3⟩ := hb
      exact ⟨x, e1, rkc_dn h h2 e3⟩
    all_goals cases hl
  · rcases b with u | u | u | u | u | u
    · cases hl
    · cases hl
    · cases hl
    · have h1 : w = u := Nat.eq_of_beq_eq_true hl
      subst h1
      exact hb
    · cases hl
    · cases hl
  · cases hl
  · match t, hl with
    | 0, hl =>
      show isC2 v = false
      rw [sC2_ok hb]
      exact snot_t hl
    | 3, hl => exact sP1_J (E := []) hl hb
    | 1, hl =>
      have e := isT0_eq (show isT0 b 1 = true from hl)
      rw [e] at hb
      exact hb
    | 2, hl =>
      have e := isT0_eq (show isT0 b 2 = true from hl)
      rw [e] at hb
      exact hb
    | t + 4, hl =>
      have e := isT0_eq (show isT0 b (t + 4) = true from hl)
      rw [e] at hb
      exact hb
noncomputable def ylkL (n : Nat) (l : List SV) : List SV → Bool := List.rec (motive := fun _ => List SV → Bool) (fun m => match m with | [] => true | _ => false) (fun a _ ih m => match m with | b :: m => Bool.rec false (ih m) (ylk n a b) | [] => false) l
theorem ylkL_ok {G0 G : List Int} (h : G0 <+: G) : ∀ {l m : List SV} {w : List AV}, ylkL G0.length l m = true → svs kd G m w → svs kd G0 l w := by
  intro l
  induction l with
  | nil =>
    intro m w hl hm
    cases m with
    | nil => obtain rfl := svs_nil hm; trivial
    | cons _ _ => cases hl
  | cons a l ih =>
    intro m w hl hm
    cases m with
    | nil => cases hl
    | cons b m =>
      obtain ⟨h1, h2⟩ := band (show (Bool.rec false (ylkL G0.length l m) (ylk G0.length a b) : Bool) = true from hl)
      obtain ⟨v, w', rfl, g1, g2⟩ := svs_cons hm
      exact ⟨ylk_ok h h1 g1, ih h2 g2⟩
/-- the locals that run are within their bounds -/
noncomputable def yckL (E : YE) (L : List SV) (l : List (Nat × Int × Int)) : Bool := List.rec true (fun a _ ih => Bool.rec false ih (match yat L a.1 with | some (.inl q) => yin (yrg E q) a.2 | _ => false)) l
theorem yckL_ok {G : List Int} {E : YE} (hE : yenv G E) {Ls : List SV} {L : List AV} (hL : svs kd G Ls L) : ∀ {l : List (Nat × Int × Int)}, yckL E Ls l = true → PrLo l L := by
  intro l
  induction l with
  | nil => intro _ a ha; cases ha
  | cons b l ih =>
    intro h a ha
    obtain ⟨h1, h2⟩ := band (show (Bool.rec false (yckL E Ls l) (match yat Ls b.1 with | some (.inl q) => yin (yrg E q) b.2 | _ => false) : Bool) = true from h)
    rcases List.mem_cons.mp ha with e | e
    · subst e
      rw [yat_eq] at h1
      cases hq : Ls[a.1]? with
      | none => rw [hq] at h1; cases h1
      | some s =>
        rw [hq] at h1
        rcases s with q | q | q | q | q | q
        · obtain ⟨x, e1, e2, e3⟩ := (svs_at hL hq).1
          obtain ⟨b1, b2⟩ := yin_ok hE e3 h1
          exact ⟨x, e1, e2, b1, b2⟩
        all_goals cases h1
    · exact ih h2 a e
/-- the facts that stay are still known -/
noncomputable def yckH (n : Nat) (H : OV) (l : OV) : Bool := List.rec true (fun a _ ih => Bool.rec false ih (match yfd a.1.1 a.1.2 H with | some v => Bool.rec false (Bool.rec false (yscK n a.1) (ysc n a.2)) (eAf v a.2) | none => false)) l
theorem yckH_ok {G0 G : List Int} (h : G0 <+: G) {H : OV} {M : Mem} (hH : ovl kd G H M) : ∀ {l : OV}, yckH G0.length H l = true → ovl kd G0 l M := by
  intro l
  induction l with
  | nil => intro _ a ha; cases ha
  | cons b l ih =>
    intro hl a ha
    obtain ⟨h1, h2⟩ := band (show (Bool.rec false (yckH G0.length H l) (match yfd b.1.1 b.1.2 H with | some v => Bool.rec false (Bool.rec false (yscK G0.length b.1) (ysc G0.length b.2)) (eAf v b.2) | none => false) : Bool) = true from hl)
    rcases List.mem_cons.mp ha with e | e
    · subst e
      cases hq : yfd a.1.1 a.1.2 H with
      | none => rw [hq] at h1; cases h1
      | some v =>
        rw [hq] at h1
        obtain ⟨k1, k2⟩ := band h1
        obtain ⟨k3, k4⟩ := band k2
        have k1 := eAf_eq k1
        subst k1
        obtain ⟨k, i, p1, p2, p3⟩ := hH _ (yfd_mem hq)
        obtain ⟨q1, q2⟩ := pl_dn (q := a.1) h k4 ⟨p1, p2⟩
        exact ⟨k, i, q1, q2, yev_dn h k3 p3⟩
    · exact ih h2 a e
noncomputable def yckF (n : Nat) (E : YE) (H : OV) (l : List ((RK × Aff) × Int × Int)) : Bool := List.rec true (fun a _ ih => Bool.rec false ih (match yfd a.1.1 a.1.2 H with | some v => Bool.rec false (yscK n a.1) (yin (yrg E v) a.2) | none => false)) l
theorem yckF_ok {G0 G : List Int} (h : G0 <+: G) {E : YE} (hE : yenv G E) {H : OV} {M : Mem} (hH : ovl kd G H M) : ∀ {l : List ((RK × Aff) × Int × Int)}, yckF G0.length E H l = true → PrFa kd G0 l M := by
  intro l
  induction l with
  | nil => intro _ a ha; cases ha
  | cons b l ih =>
    intro hl a ha
    obtain ⟨h1, h2⟩ := band (show (Bool.rec false (yckF G0.length E H l) (match yfd b.1.1 b.1.2 H with | some v => Bool.rec false (yscK G0.length b.1) (yin (yrg E v) b.2) | none => false) : Bool) = true from hl)
    rcases List.mem_cons.mp ha with e | e
    · subst e
      cases hq : yfd a.1.1 a.1.2 H with
      | none => rw [hq] at h1; cases h1
      | some v =>
        rw [hq] at h1
        obtain ⟨k1, k2⟩ := band h1
        obtain ⟨k, i, p1, p2, p3⟩ := hH _ (yfd_mem hq)
        obtain ⟨b1, b2⟩ := yin_ok hE p3 k1
        exact ⟨k, i, pl_dn (q := a.1) h k2 ⟨p1, p2⟩, b1, b2⟩
    · exact ih h2 a e
/-- the sum of two, where it surely is an int -/
noncomputable def ysmall (E : YE) (s : Int) (x y : Aff) : Bool := match yrg E x, yrg E y with
  | some a, some b => Bool.rec (Bool.rec false (i32b (some (a.1 - b.2, a.2 - b.1))) (ieq s (-1))) (i32b (some (a.1 + b.1, a.2 + b.2))) (ieq s 1)
  | _, _ => false
theorem ysmall_ok {G : List Int} {E : YE} (hE : yenv G E) {x y : Aff} {a b s : Int} (ha : yev G x = some a) (hb : yev G y = some b) (h : ysmall E s x y = true) : s ≠ 0 ∧ w32 (a + s * b) = a + s * b := by
  unfold ysmall at h
  cases hx : yrg E x with
  | none => rw [hx] at h; cases h
  | some rx =>
    cases hy : yrg E y with
    | none => rw [hx, hy] at h; cases h
    | some ry =>
      rw [hx, hy] at h
      have q1 := yrg_ok hE ha hx
      have q2 := yrg_ok hE hb hy
      have h : (Bool.rec (Bool.rec false (i32b (some (rx.1 - ry.2, rx.2 - ry.1))) (ieq s (-1))) (i32b (some (rx.1 + ry.1, rx.2 + ry.2))) (ieq s 1) : Bool) = true := h
      cases h1 : ieq s 1 with
      | true =>
        rw [h1] at h
        have h1 := ieq_iff.mp h1
        obtain ⟨k1, k2⟩ := band h
        have k1 := ile_iff.mp k1
        have k2 := ile_iff.mp k2
        subst h1
        refine ⟨by omega, w32_id ?_ ?_⟩
        · have k1 : -2147483648 ≤ rx.1 + ry.1 := k1; omega
        · have k2 : rx.2 + ry.2 ≤ 2147483647 := k2; omega
      | false =>
        rw [h1] at h
        cases h2 : ieq s (-1) with
        | false => rw [h2] at h; cases h
        | true =>
          rw [h2] at h
          have h2 := ieq_iff.mp h2
          obtain ⟨k1, k2⟩ := band h
          have k1 := ile_iff.mp k1
          have k2 := ile_iff.mp k2
          subst h2
          refine ⟨by omega, w32_id ?_ ?_⟩
          · have k1 : -2147483648 ≤ rx.1 - ry.2 := k1; omega
          · have k2 : rx.2 - ry.1 ≤ 2147483647 := k2; omega
noncomputable def yckS (n : Nat) (E : YE) (H : OV) (l : List ((RK × Aff) × (RK × Aff) × Int × Int × Int)) : Bool := List.rec true (fun a _ ih => Bool.rec false ih (match yfd a.1.1 a.1.2 H, yfd a.2.1.1 a.2.1.2 H with
  | some x, some y => Bool.rec false (Bool.rec false (Bool.rec false (yscK n a.2.1) (yscK n a.1)) (yin (yrg (yadd E a.2.2.1 x y).1 (yadd E a.2.2.1 x y).2) a.2.2.2)) (ysmall E a.2.2.1 x y)
  | _, _ => false)) l
theorem yckS_ok {G0 G : List Int} (h : G0 <+: G) {E : YE} (hE : yenv G E) {H : OV} {M : Mem} (hH : ovl kd G H M) : ∀ {l : List ((RK × Aff) × (RK × Aff) × Int × Int × Int)}, yckS G0.length E H l = true → PrSu kd G0 l M := by
  intro l
  induction l with
  | nil => intro _ a ha; cases ha
  | cons b l ih =>
    intro hl a ha
    obtain ⟨h1, h2⟩ := band (show (Bool.rec false (yckS G0.length E H l) (match yfd b.1.1 b.1.2 H, yfd b.2.1.1 b.2.1.2 H with
      | some x, some y => Bool.rec false (Bool.rec false (Bool.rec false (yscK G0.length b.2.1) (yscK G0.length b.1)) (yin (yrg (yadd E b.2.2.1 x y).1 (yadd E b.2.2.1 x y).2) b.2.2.2)) (ysmall E b.2.2.1 x y)
      | _, _ => false) : Bool) = true from hl)
    rcases List.mem_cons.mp ha with e | e
    · subst e
      cases hx : yfd a.1.1 a.1.2 H with
      | none => rw [hx] at h1; cases h1
      | some x =>
        cases hy : yfd a.2.1.1 a.2.1.2 H with
        | none => rw [hx, hy] at h1; cases h1
        | some y =>
          rw [hx, hy] at h1
          obtain ⟨k3, k4⟩ := band h1
          obtain ⟨k5, k6⟩ := band k4
          obtain ⟨k7, k8⟩ := band k6
          obtain ⟨k, i, p1, p2, p3⟩ := hH _ (yfd_mem hx)
          obtain ⟨k', i', q1, q2, q3⟩ := hH _ (yfd_mem hy)
          obtain ⟨hs, hw⟩ := ysmall_ok hE p3 q3 k3
          obtain ⟨G1, g1, g2, g3⟩ := yadd_ok hE hs p3 q3
          rw [hw] at g3
          obtain ⟨b1, b2⟩ := yin_ok g2 g3 k5
          exact ⟨k, i, k', i', pl_dn (q := a.1) h k7 ⟨p1, p2⟩, pl_dn (q := a.2.1) h k8 ⟨q1, q2⟩, b1, b2⟩
    · exact ih h2 a e
/-- the value that runs, and its bounds -/
noncomputable def yvar (an : An) (σ : SS) : Option (Aff × Int × Int) := match an.2.2.2.2.1 with
  | false => (match an.1 with | a :: _ => (match yat σ.2.1 a.1 with | some (.inl q) => some (q, a.2) | _ => none) | [] => none)
  | true => (match an.2.1 with | a :: _ => (match yfd a.1.1 a.1.2 σ.2.2.2.1 with | some v => some (v, a.2) | none => none) | [] => none)
noncomputable def ybk0 (kd : Nat → Nat) (σ : SS) (an : An) (n : Nat) (cur : SS) : Bool := Bool.rec false (Bool.rec false (Bool.rec false (Bool.rec false (Bool.rec false (Bool.rec false (Bool.rec false (match cur.2.2.1 with | [] => true | _ => false) (Nat.beq cur.2.2.2.2 σ.2.2.2.2)) (yckS n cur.1 cur.2.2.2.1 an.2.2.2.1)) (yckF n cur.1 cur.2.2.2.1 an.2.1)) (yckH n cur.2.2.2.1 (ypreH kd an σ.1 σ.2.2.2.1))) (yckL cur.1 cur.2.1 an.1)) (ylkL n (ypreL an.1 an.2.2.2.2.2.2 σ.2.1) cur.2.1)) (match yvar an cur with | some _ => true | none => false)
theorem ybk0_ok {G0 G : List Int} (h : G0 <+: G) {σ cur : SS} {an : An} (hE0 : yenv G0 σ.1) {L S : List AV} {M : Mem} (hS : Sat kd G cur L S M) (hb : ybk0 kd σ an G0.length cur = true) : S = [] ∧ cur.2.2.2.2 = σ.2.2.2.2 ∧ PrHd kd G0 σ an L M ∧ ∃ q b v, yvar an cur = some (q, b) ∧ yev G q = some v ∧ Var kd G0 an L M v := by
  obtain ⟨h1, hb⟩ := band hb
  obtain ⟨h2, hb⟩ := band hb
  obtain ⟨h3, hb⟩ := band hb
  obtain ⟨h4, hb⟩ := band hb
  obtain ⟨h5, hb⟩ := band hb
  obtain ⟨h6, hb⟩ := band hb
  obtain ⟨h7, h8⟩ := band hb
  have hP : PrHd kd G0 σ an L M := ⟨hE0, ylkL_ok h h2 hS.2.1, yckH_ok h hS.2.2.2 h4, yckL_ok hS.1 hS.2.1 h3, yckF_ok h hS.1 hS.2.2.2 h5, yckS_ok h hS.1 hS.2.2.2 h6⟩
  refine ⟨?_, Nat.eq_of_beq_eq_true h7, hP, ?_⟩
  · cases hc : cur.2.2.1 with
    | nil => have := hS.2.2.1; rw [hc] at this; exact svs_nil this
    | cons _ _ => rw [hc] at h8; cases h8
  · cases hv : yvar an cur with
    | none => rw [hv] at h1; cases h1
    | some qb =>
      obtain ⟨q, b⟩ := qb
      unfold yvar at hv
      unfold Var
      cases hf : an.2.2.2.2.1 with
      | false =>
        rw [hf] at hv
        cases hl : an.1 with
        | nil => rw [hl] at hv; cases hv
        | cons a l =>
          rw [hl] at hv
          have hv : (match yat cur.2.1 a.1 with | some (.inl q) => some (q, a.2) | _ => none : Option (Aff × Int × Int)) = some (q, b) := hv
          rw [yat_eq] at hv
          cases hq : cur.2.1[a.1]? with
          | none => rw [hq] at hv; cases hv
          | some s =>
            rw [hq] at hv
            rcases s with q' | q' | q' | q' | q' | q'
            · cases hv
              obtain ⟨x, e1, e2, e3⟩ := (svs_at hS.2.1 hq).1
              obtain ⟨x', f1, f2, f3, f4⟩ := hP.2.2.2.1 a (by rw [hl]; exact List.mem_cons_self)
              rw [e1] at f1
              have f1 : x = x' := Sum.inl.inj f1
              refine ⟨q, a.2, sg x, rfl, e3, a, l, x, rfl, e1, rfl, ?_, ?_⟩
              · rw [f1]; exact f3
              · rw [f1]; exact f4
            all_goals cases hv
      | true =>
        rw [hf] at hv
        cases hl : an.2.1 with
        | nil => rw [hl] at hv; cases hv
        | cons a l =>
          rw [hl] at hv
          have hv : (match yfd a.1.1 a.1.2 cur.2.2.2.1 with | some v => some (v, a.2) | none => none : Option (Aff × Int × Int)) = some (q, b) := hv
          cases hq : yfd a.1.1 a.1.2 cur.2.2.2.1 with
          | none => rw [hq] at hv; cases hv
          | some v =>
            rw [hq] at hv
            cases hv
            obtain ⟨k, i, p1, p2, p3⟩ := hS.2.2.2 _ (yfd_mem hq)
            obtain ⟨k', i', f1, f2, f3⟩ := hP.2.2.2.2.1 a (by rw [hl]; exact List.mem_cons_self)
            obtain ⟨rfl, rfl⟩ := pl_fun (q := a.1) ⟨p1, p2⟩ (pl_mono h f1)
            exact ⟨q, a.2, _, rfl, p3, a, l, k, i, rfl, f1, rfl, f2, f3⟩
/-- how far it still may run -/
noncomputable def ybnd (an : An) : Int × Int := match an.2.2.2.2.1 with
  | false => (match an.1 with | a :: _ => a.2 | [] => (0, 0))
  | true => (match an.2.1 with | a :: _ => a.2 | [] => (0, 0))
noncomputable def yms (an : An) (v : Int) : Nat := match an.2.2.2.2.2.1 with | true => ((ybnd an).2 - v).toNat | false => (v - (ybnd an).1).toNat
noncomputable def ymx (an : An) : Nat := ((ybnd an).2 - (ybnd an).1).toNat
theorem var_bnd {G : List Int} {an : An} {L : List AV} {M : Mem} {v : Int} (h : Var kd G an L M v) : (ybnd an).1 ≤ v ∧ v ≤ (ybnd an).2 := by
  unfold Var at h
  unfold ybnd
  cases hf : an.2.2.2.2.1 with
  | false => rw [hf] at h; obtain ⟨a, l, x, e1, e2, e3, e4, e5⟩ := h; rw [e1]; exact ⟨e4, e5⟩
  | true => rw [hf] at h; obtain ⟨a, l, k, i, e1, e2, e3, e4, e5⟩ := h; rw [e1]; exact ⟨e4, e5⟩
theorem yms_le {G : List Int} {an : An} {L : List AV} {M : Mem} {v : Int} (h : Var kd G an L M v) : yms an v ≤ ymx an := by
  have := var_bnd h
  unfold yms ymx
  cases an.2.2.2.2.2.1 with
  | true => show ((ybnd an).2 - v).toNat ≤ _; omega
  | false => show (v - (ybnd an).1).toNat ≤ _; omega
/-- the value that runs has gone on -/
noncomputable def ybkv (an : An) (gv : Nat) (cur : SS) : Bool := match yvar an cur with
  | some (q, _) => Bool.rec false (Bool.rec false (match an.2.2.2.2.2.1 with | true => ile 1 q.2.2 | false => ile q.2.2 (-1)) (ieq q.2.1 1)) (Nat.beq q.1 gv)
  | none => false
theorem ybkv_ok {G0 G : List Int} {an : An} {gv : Nat} {cur : SS} {L : List AV} {M : Mem} {q : Aff} {b : Int × Int} {v v0 : Int} (hb : ybkv an gv cur = true) (h1 : yvar an cur = some (q, b)) (h2 : yev G q = some v) (h3 : G[gv]? = some v0) (h4 : Var kd G0 an L M v) : yms an v < yms an v0 := by
  unfold ybkv at hb
  rw [h1] at hb
  obtain ⟨k1, hb⟩ := band hb
  obtain ⟨k2, k3⟩ := band hb
  have k1 := Nat.eq_of_beq_eq_true k1
  have k2 := ieq_iff.mp k2
  have hv : v = v0 + q.2.2 := by
    rcases yev_some h2 with ⟨q1, _⟩ | ⟨_, x, q2, q3⟩
    · rw [k2] at q1; cases q1
    · rw [k1, h3] at q2
      cases q2
      rw [q3, k2, Int.one_mul]
  have hB := var_bnd h4
  unfold yms
  cases hd : an.2.2.2.2.2.1 with
  | true =>
    rw [hd] at k3
    have k3 := ile_iff.mp (show ile 1 q.2.2 = true from k3)
    show ((ybnd an).2 - v).toNat < ((ybnd an).2 - v0).toNat
    omega
  | false =>
    rw [hd] at k3
    have k3 := ile_iff.mp (show ile q.2.2 (-1) = true from k3)
    show (v - (ybnd an).1).toNat < (v0 - (ybnd an).1).toNat
    omega
end BACK
