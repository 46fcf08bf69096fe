/-! where a block goes on; calls -/
section TERMS
variable {kd : Nat → Nat} {sh : Nat → Sh} {rt : Nat → Nat → Nat} {bd : Nat → Int → Int × Int} {Wp PR : Nat → Int → Bool} {Inv : Mem → Prop} {M0 : Mem} {Ev : Env9} {Zo : Nat} {B : List Int} {c : Nat} {P : Res → Prop} {K : KK} {k : SS → SR} {call : Call} {un : Nat → Bool} {j : Jmp} {xj : Nat → SS → SR}
theorem yfk_some {e : Option YE} {f : YE → SR} {E : YE} {r : Nat × List Out} (h : yfk e f = some r) (he : e = some E) : f E = some r := by
  rw [he] at h
  exact h
/-- three ways on, by how x stands to y -/
noncomputable def y3 (E : YE) (x y : Aff) (tl te tg : Nat) (f : Nat → YE → SR) : SR :=
  Bool.rec (Bool.rec (Bool.rec (ymg (yfk (ylt E x y) (f tl)) (ymg (yfk (yeq E x y) (f te)) (yfk (ylt E y x) (f tg))))
    (ymg (yfk (yeq E x y) (f te)) (yfk (yne E x y) (f tl))) (Nat.beq tl tg))
    (ymg (yfk (yle E x y) (f tl)) (yfk (ylt E y x) (f tg))) (Nat.beq tl te))
    (ymg (yfk (ylt E x y) (f tl)) (yfk (yle E y x) (f te))) (Nat.beq te tg)
/-- a way that was run -/
def Way (G : List Int) (f : Nat → YE → SR) (t : Nat) (r : Nat × List Out) : Prop := ∃ E' r', yenv G E' ∧ f t E' = some r' ∧ r'.1 ≤ r.1 ∧ ∀ o ∈ r'.2, o ∈ r.2
theorem ymg_l {a b : SR} {r : Nat × List Out} (h : ymg a b = some r) : ∃ x, a = some x ∧ x.1 ≤ r.1 ∧ ∀ o ∈ x.2, o ∈ r.2 := by
  obtain ⟨x, y, h1, h2, h3, h4, h5⟩ := ymg_some h
  exact ⟨x, h1, h4, fun o ho => by rw [h3]; exact List.mem_append_left _ ho⟩
theorem ymg_r {a b : SR} {r : Nat × List Out} (h : ymg a b = some r) : ∃ x, b = some x ∧ x.1 ≤ r.1 ∧ ∀ o ∈ x.2, o ∈ r.2 := by
  obtain ⟨x, y, h1, h2, h3, h4, h5⟩ := ymg_some h
  exact ⟨y, h2, h5, fun o ho => by rw [h3]; exact List.mem_append_right _ ho⟩
theorem way_of {G : List Int} {f : Nat → YE → SR} {t : Nat} {e : Option YE} {x r : Nat × List Out} (hx : yfk e (f t) = some x) (h1 : x.1 ≤ r.1) (h2 : ∀ o ∈ x.2, o ∈ r.2) (he : ∃ E', e = some E' ∧ yenv G E') : Way G f t r := by
  obtain ⟨E', e1, e2⟩ := he
  exact ⟨E', x, e2, yfk_some hx e1, h1, h2⟩
theorem y3_ok {G : List Int} {E : YE} (hE : yenv G E) {x y : Aff} {a b : Int} {tl te tg : Nat} {f : Nat → YE → SR} {r : Nat × List Out} (h : y3 E x y tl te tg f = some r) (ha : yev G x = some a) (hb : yev G y = some b) : Way G f (if a < b then tl else if a = b then te else tg) r := by
  unfold y3 at h
  cases h1 : Nat.beq te tg with
  | true =>
    rw [h1] at h
    have h1 := Nat.eq_of_beq_eq_true h1
    by_cases q1 : a < b
    · rw [if_pos q1]
      obtain ⟨x', k1, k2, k3⟩ := ymg_l h
      exact way_of k1 k2 k3 (ylt_ok hE ha hb q1)
    · rw [if_neg q1]
      obtain ⟨x', k1, k2, k3⟩ := ymg_r h
      have e : (if a = b then te else tg) = te := by rw [h1]; split <;> rfl
      rw [e]
      exact way_of k1 k2 k3 (yle_ok hE hb ha (by omega))
  | false =>
    rw [h1] at h
    cases h2 : Nat.beq tl te with
    | true =>
      rw [h2] at h
      have h2 := Nat.eq_of_beq_eq_true h2
      by_cases q1 : a ≤ b
      · have e : (if a < b then tl else if a = b then te else tg) = tl := by
          by_cases q2 : a < b
          · rw [if_pos q2]
          · rw [if_neg q2, if_pos (by omega), h2]
        rw [e]
        obtain ⟨x', k1, k2, k3⟩ := ymg_l h
        exact way_of k1 k2 k3 (yle_ok hE ha hb q1)
      · rw [if_neg (by omega), if_neg (by omega)]
        obtain ⟨x', k1, k2, k3⟩ := ymg_r h
        exact way_of k1 k2 k3 (ylt_ok hE hb ha (by omega))
    | false =>
      rw [h2] at h
      cases h3 : Nat.beq tl tg with
      | true =>
        rw [h3] at h
        have h3 := Nat.eq_of_beq_eq_true h3
        by_cases q1 : a = b
        · rw [if_neg (by omega), if_pos q1]
          obtain ⟨x', k1, k2, k3⟩ := ymg_l h
          exact way_of k1 k2 k3 (yeq_ok hE ha hb q1)
        · have e : (if a < b then tl else if a = b then te else tg) = tl := by
            by_cases q2 : a < b
            · rw [if_pos q2]
            · rw [if_neg q2, if_neg q1, h3]
          rw [e]
          obtain ⟨x', k1, k2, k3⟩ := ymg_r h
          exact way_of k1 k2 k3 (yne_ok hE ha hb q1)
      | false =>
        rw [h3] at h
        by_cases q1 : a < b
        · rw [if_pos q1]
          obtain ⟨x', k1, k2, k3⟩ := ymg_l h
          exact way_of k1 k2 k3 (ylt_ok hE ha hb q1)
        · rw [if_neg q1]
          obtain ⟨x', k1, k2, k3⟩ := ymg_r h
          by_cases q2 : a = b
          · rw [if_pos q2]
            obtain ⟨x2, k4, k5, k6⟩ := ymg_l k1
            exact way_of k4 (Nat.le_trans k5 k2) (fun o ho => k3 o (k6 o ho)) (yeq_ok hE ha hb q2)
          · rw [if_neg q2]
            obtain ⟨x2, k4, k5, k6⟩ := ymg_r k1
            exact way_of k4 (Nat.le_trans k5 k2) (fun o ho => k3 o (k6 o ho)) (ylt_ok hE hb ha (by omega))
def KJ (kd : Nat → Nat) (sh : Nat → Sh) (rt : Nat → Nat → Nat) (bd : Nat → Int → Int × Int) (Wp : Nat → Int → Bool) (Inv : Mem → Prop) (M0 : Mem) (Ev : Env9) (Zo : Nat) (B : List Int) (c : Nat) (P : Res → Prop) (j : Jmp) (xj : Nat → SS → SR) : Prop := ∀ b, KS kd sh rt bd Wp Inv M0 Ev Zo B c P (j b) (xj b)
noncomputable def x_goto (t : Nat) (xj : Nat → SS → SR) : SS → SR := xj t
theorem s_goto {t : Nat} (hj : KJ kd sh rt bd Wp Inv M0 Ev Zo B c P j xj) : KS kd sh rt bd Wp Inv M0 Ev Zo B c P (tm_goto t call j) (x_goto t xj) := hj t
noncomputable def x_icmp (tl te tg : Nat) (xj : Nat → SS → SR) : SS → SR := fun σ => match σ.2.2.1 with
  | .inl y :: S => (match S with
    | .inl x :: S => y3 σ.1 x y tl te tg (fun t E => xj t (E, σ.2.1, S, σ.2.2.2.1, σ.2.2.2.2))
    | _ => none)
  | _ => none
theorem c3_way (x y tl te tg : Nat) (f : Nat → OR) : c3 (bi x) (bi y) (f tl) (f te) (f tg) = f (if sg x < sg y then tl else if sg x = sg y then te else tg) := by
  rw [c3_eq]
  by_cases q1 : sg x < sg y
  · rw [if_pos (bi_lt_iff.mpr q1), if_pos q1]
  · rw [if_neg (fun q => q1 (bi_lt_iff.mp q)), if_neg q1]
    by_cases q2 : sg x = sg y
    · rw [if_pos (bi_eq_iff.mpr q2), if_pos q2]
    · rw [if_neg (fun q => q2 (bi_eq_iff.mp q)), if_neg q2]
theorem s_icmp {tl te tg : Nat} (hj : KJ kd sh rt bd Wp Inv M0 Ev Zo B c P j xj) : KS kd sh rt bd Wp Inv M0 Ev Zo B c P (tm_icmp tl te tg call j) (x_icmp tl te tg xj) := by
  intro σ c' os h hc ho G L S M hB hS hM
  obtain ⟨E, Ls, Ss, H, z⟩ := σ
  rcases Ss with _ | ⟨y, Ss⟩
  · cases h
  rcases y with y | y | y | y | y | y
  · rcases Ss with _ | ⟨x, Ss⟩
    · cases h
    rcases x with x | x | x | x | x | x
    · obtain ⟨v, S, rfl, g1, g2⟩ := svs_cons hS.2.2.1
      obtain ⟨u, S, rfl, g3, g4⟩ := svs_cons g2
      obtain ⟨b, rfl, b1, b2⟩ := g1
      obtain ⟨a, rfl, a1, a2⟩ := g3
      show OKo (c3 (bi a) (bi b) (j tl Ev 466 (Zo + z) L S M) (j te Ev 466 (Zo + z) L S M) (j tg Ev 466 (Zo + z) L S M)) _
      rw [c3_way a b tl te tg (fun t => j t Ev 466 (Zo + z) L S M)]
      obtain ⟨E', r', e1, e2, e3, e4⟩ := y3_ok hS.1 (show y3 E x y tl te tg (fun t E => xj t (E, Ls, Ss, H, z)) = some (c', os) from h) a2 b2
      exact ks_use (hj _) (σ := (E', Ls, Ss, H, z)) e2 (Nat.le_trans e3 hc) (fun o h9 => ho o (e4 o h9)) hB ⟨e1, hS.2.1, g4, hS.2.2.2⟩ hM
    all_goals cases h
  all_goals cases h
noncomputable def x_if (tl te tg : Nat) (xj : Nat → SS → SR) : SS → SR := fun σ => match σ.2.2.1 with
  | a :: S => (match a with
    | .inl x => y3 σ.1 x (0, 0, 0) tl te tg (fun t E => xj t (E, σ.2.1, S, σ.2.2.2.1, σ.2.2.2.2))
    | .inr (.inr (.inr (.inr (.inl q)))) => y3 σ.1 q.1 q.2 tl te tg (fun t E => xj t (E, σ.2.1, S, σ.2.2.2.1, σ.2.2.2.2))
    | _ => none)
  | [] => none
theorem sgZ0 : sg 0 = 0 := sg_eq (x := 0) (by omega)
theorem s_if {tl te tg : Nat} (hj : KJ kd sh rt bd Wp Inv M0 Ev Zo B c P j xj) : KS kd sh rt bd Wp Inv M0 Ev Zo B c P (tm_if tl te tg call j) (x_if tl te tg xj) := by
  intro σ c' os h hc ho G L S M hB hS hM
  obtain ⟨E, Ls, Ss, H, z⟩ := σ
  rcases Ss with _ | ⟨a, Ss⟩
  · cases h
  obtain ⟨v, S, rfl, g1, g2⟩ := svs_cons hS.2.2.1
  rcases a with x | q | q | q | q | q
  · obtain ⟨a, rfl, a1, a2⟩ := g1
    show OKo (c3 (bi a) (bi 0) (j tl Ev 466 (Zo + z) L S M) (j te Ev 466 (Zo + z) L S M) (j tg Ev 466 (Zo + z) L S M)) _
    rw [c3_way a 0 tl te tg (fun t => j t Ev 466 (Zo + z) L S M), sgZ0]
    obtain ⟨E', r', e1, e2, e3, e4⟩ := y3_ok hS.1 (show y3 E x (0, 0, 0) tl te tg (fun t E => xj t (E, Ls, Ss, H, z)) = some (c', os) from h) a2 yev_c
    exact ks_use (hj _) (σ := (E', Ls, Ss, H, z)) e2 (Nat.le_trans e3 hc) (fun o h9 => ho o (e4 o h9)) hB ⟨e1, hS.2.1, g2, hS.2.2.2⟩ hM
  · cases h
  · cases h
  · cases h
  · obtain ⟨n, a, b, rfl, n1, a1, b1, n2⟩ := g1
    show OKo (c3 (bi n) (bi 0) (j tl Ev 466 (Zo + z) L S M) (j te Ev 466 (Zo + z) L S M) (j tg Ev 466 (Zo + z) L S M)) _
    rw [c3_way n 0 tl te tg (fun t => j t Ev 466 (Zo + z) L S M), sgZ0]
    have e : (if sg n < 0 then tl else if sg n = 0 then te else tg) = (if a < b then tl else if a = b then te else tg) := by
      rw [n2]
      by_cases q1 : a < b
      · simp only [if_pos q1]; rfl
      · simp only [if_neg q1]
        by_cases q2 : a = b
        · simp only [if_pos q2]; rfl
        · simp only [if_neg q2]; rfl
    rw [e]
    obtain ⟨E', r', e1, e2, e3, e4⟩ := y3_ok hS.1 (show y3 E q.1 q.2 tl te tg (fun t E => xj t (E, Ls, Ss, H, z)) = some (c', os) from h) a1 b1
    exact ks_use (hj _) (σ := (E', Ls, Ss, H, z)) e2 (Nat.le_trans e3 hc) (fun o h9 => ho o (e4 o h9)) hB ⟨e1, hS.2.1, g2, hS.2.2.2⟩ hM
  · cases h
/-- one way for each number of the list, one for all others -/
noncomputable def ysw (σ : SS) (S : List SV) (q : Aff) (xj : Nat → SS → SR) (ts : List Nat) : Nat → SR → SR := List.rec (motive := fun _ => Nat → SR → SR) (fun _ d => d) (fun t _ ih i d => ymg (yfk (ynar σ.1 q (i : Int) (i : Int)) (fun E => xj t (E, σ.2.1, S, σ.2.2.2.1, σ.2.2.2.2))) (ih (i + 1) d)) ts
noncomputable def x_switch (d : Nat) (ts : List Nat) (xj : Nat → SS → SR) : SS → SR := fun σ => match σ.2.2.1 with
  | .inl q :: S => ysw σ S q xj ts 0 (Bool.rec (xj d (σ.1, σ.2.1, S, σ.2.2.2.1, σ.2.2.2.2)) (some (0, [])) (yin (yrg σ.1 q) (0, (ylen ts : Int) - 1)))
  | _ => none
theorem nthN_get (ts : List Nat) (d i : Nat) : nthN ts d i = (ts[i]?).getD d := by
  induction ts generalizing i with
  | nil => rfl
  | cons t ts ih =>
    cases i with
    | zero => rfl
    | succ i => rw [List.getElem?_cons_succ]; exact ih i
theorem ysw_some {G : List Int} {σ : SS} (hE : yenv G σ.1) {S : List SV} {q : Aff} {v : Int} (hv : yev G q = some v) {d : SR} : ∀ {ts : List Nat} {i : Nat} {r : Nat × List Out}, ysw σ S q xj ts i d = some r → (∀ j t, ts[j]? = some t → v = ((i + j : Nat) : Int) → ∃ E' r', yenv G E' ∧ xj t (E', σ.2.1, S, σ.2.2.2.1, σ.2.2.2.2) = some r' ∧ r'.1 ≤ r.1 ∧ ∀ o ∈ r'.2, o ∈ r.2) ∧ ∃ r', d = some r' ∧ r'.1 ≤ r.1 ∧ ∀ o ∈ r'.2, o ∈ r.2 := by
  intro ts
  induction ts with
  | nil => intro i r h; exact ⟨(fun j t hj => nomatch hj), r, h, Nat.le_refl _, fun o ho => ho⟩
  | cons t ts ih =>
    intro i r h
    obtain ⟨x, k1, k2, k3⟩ := ymg_l h
    obtain ⟨x2, k4, k5, k6⟩ := ymg_r h
    obtain ⟨q1, r', q2, q3, q4⟩ := ih k4
    refine ⟨fun j t' hj hv' => ?_, r', q2, Nat.le_trans q3 k5, fun o ho => k6 o (q4 o ho)⟩
    cases j with
    | zero =>
      cases hj
      obtain ⟨E', e1, e2⟩ := ynar_ok hE hv (l := (i : Int)) (h := (i : Int)) (by omega) (by omega)
      exact ⟨E', x, e2, yfk_some k1 e1, k2, k3⟩
    | succ j =>
      rw [List.getElem?_cons_succ] at hj
      obtain ⟨E', r9, e1, e2, e3, e4⟩ := q1 j t' hj (by rw [hv']; congr 1; omega)
      exact ⟨E', r9, e1, e2, Nat.le_trans e3 k5, fun o ho => k6 o (e4 o ho)⟩
theorem s_switch {d : Nat} {ts : List Nat} (hts : ts.length ≤ 100000) (hj : KJ kd sh rt bd Wp Inv M0 Ev Zo B c P j xj) : KS kd sh rt bd Wp Inv M0 Ev Zo B c P (tm_switch d ts call j) (x_switch d ts xj) := by
  intro σ c' os h hc ho G L S M hB hS hM
  obtain ⟨E, Ls, Ss, H, z⟩ := σ
  rcases Ss with _ | ⟨a, Ss⟩
  · cases h
  rcases a with q | q | q | q | q | q
  · obtain ⟨v, S, rfl, g1, g2⟩ := svs_cons hS.2.2.1
    obtain ⟨n, rfl, n1, n2⟩ := g1
    have e : tm_switch d ts call j Ev 466 (Zo + z) L (vI n :: S) M = j (nthN ts d n) Ev 466 (Zo + z) L S M := by
      show gd (Nat.ble n 4294967295) (j (nthN ts d n) Ev 466 (Zo + z) L S M) = _
      rw [Nat.ble_eq_true_of_le (show n ≤ 4294967295 by omega)]
      rfl
    show OKo (tm_switch d ts call j Ev 466 (Zo + z) L (vI n :: S) M) _
    rw [e, nthN_get]
    obtain ⟨q1, r', q2, q3, q4⟩ := ysw_some (σ := (E, Ls, sI q :: Ss, H, z)) hS.1 n2 (show ysw (E, Ls, sI q :: Ss, H, z) Ss q xj ts 0 _ = some (c', os) from h)
    cases ht : ts[n]? with
    | some t =>
      have hl : n < ts.length := (List.getElem?_eq_some_iff.mp ht).1
      obtain ⟨E', r9, e1, e2, e3, e4⟩ := q1 n t ht (by rw [sg_eq (by omega)]; congr 1; omega)
      exact ks_use (hj t) (σ := (E', Ls, Ss, H, z)) e2 (Nat.le_trans e3 hc) (fun o h9 => ho o (e4 o h9)) hB ⟨e1, hS.2.1, g2, hS.2.2.2⟩ hM
    | none =>
      have hl : ts.length ≤ n := List.getElem?_eq_none_iff.mp ht
      cases hy : yin (yrg E q) (0, (ylen ts : Int) - 1) with
      | true =>
        obtain ⟨b1, b2⟩ := yin_ok hS.1 n2 hy
        rw [ylen_eq] at b2
        have b2 : sg n ≤ (ts.length : Int) - 1 := b2
        have : n ≤ 2147483647 := by unfold sg bi at b1; omega
        have := sg_eq this
        omega
      | false =>
        have q2 : (Bool.rec (xj d (E, Ls, Ss, H, z)) (some (0, [])) (yin (yrg E q) (0, (ylen ts : Int) - 1)) : SR) = some r' := q2
        rw [hy] at q2
        exact ks_use (hj d) (σ := (E, Ls, Ss, H, z)) q2 (Nat.le_trans q3 hc) (fun o h9 => ho o (q4 o h9)) hB ⟨hS.1, hS.2.1, g2, hS.2.2.2⟩ hM
  all_goals cases h
noncomputable def x_ret (f Bd : Nat) : SS → SR := fun σ => match σ.2.2.1 with
  | a :: S => (match S with | [] => gdS (sP σ.1 f a) (gdS (Nat.ble σ.2.2.2.2 Bd) (some (0, [((0, 0), σ.1, a, σ.2.2.2.1, σ.2.2.2.2)]))) | _ => none)
  | [] => none
theorem s_ret {f Bd Bc : Nat} (hb : Zo + Bd ≤ Bc) : KS kd sh rt bd Wp Inv M0 Ev Zo B c P (tm_ret (fP f) Bc call j) (x_ret f Bd) := by
  intro σ c' os h hc ho G L S M hB hS hM
  obtain ⟨E, Ls, Ss, H, z⟩ := σ
  rcases Ss with _ | ⟨a, Ss⟩
  · cases h
  rcases Ss with _ | ⟨a2, Ss⟩
  · obtain ⟨v, S, rfl, g1, g2⟩ := svs_cons hS.2.2.1
    cases S with
    | cons _ _ => exact g2.elim
    | nil =>
      obtain ⟨h1, h⟩ := gdS_some (show gdS (sP E f a) _ = _ from h)
      obtain ⟨h2, h⟩ := gdS_some h
      cases h
      have h2 : z ≤ Bd := Nat.le_of_ble_eq_true h2
      show OKo (gd (fP f v) (gd (Nat.ble (Zo + z) Bc) (some [((0, 0), Ev, v, [], [], M, 466, Zo + z)]))) _
      rw [sP_ok hS.1 h1 g1, Nat.ble_eq_true_of_le (show Zo + z ≤ Bc by omega)]
      exact ⟨_, rfl, ho _ List.mem_cons_self G _ hB hS.1 hS.2.2.2 hM rfl rfl rfl (fun _ => g1)⟩
  · cases h
noncomputable def x_vret (Bd : Nat) : SS → SR := fun σ => match σ.2.2.1 with
  | [] => gdS (Nat.ble σ.2.2.2.2 Bd) (some (0, [((1, 0), σ.1, sT 0, σ.2.2.2.1, σ.2.2.2.2)]))
  | _ => none
theorem svs_nil {G : List Int} {w : List AV} (h : svs kd G [] w) : w = [] := by
  cases w with
  | nil => rfl
  | cons _ _ => exact h.elim
theorem s_vret {Bd Bc : Nat} (hb : Zo + Bd ≤ Bc) : KS kd sh rt bd Wp Inv M0 Ev Zo B c P (tm_vret Bc call j) (x_vret Bd) := by
  intro σ c' os h hc ho G L S M hB hS hM
  obtain ⟨E, Ls, Ss, H, z⟩ := σ
  rcases Ss with _ | ⟨a, Ss⟩
  · obtain rfl := svs_nil hS.2.2.1
    obtain ⟨h2, h⟩ := gdS_some (show gdS (Nat.ble z Bd) _ = _ from h)
    cases h
    have h2 : z ≤ Bd := Nat.le_of_ble_eq_true h2
    show OKo (gd (Nat.ble (Zo + z) Bc) (some [((1, 0), Ev, vW 3, [], [], M, 466, Zo + z)])) _
    rw [Nat.ble_eq_true_of_le (show Zo + z ≤ Bc by omega)]
    exact ⟨_, rfl, ho _ List.mem_cons_self G _ hB hS.1 hS.2.2.2 hM rfl rfl rfl (fun q => nomatch q)⟩
  · cases h
noncomputable def x_throw (x Bd : Nat) : SS → SR := fun σ => match σ.2.2.1 with
  | [] => gdS (Nat.ble (σ.2.2.2.2 + 7) Bd) (some (0, [((2, x), σ.1, sT 0, σ.2.2.2.1, σ.2.2.2.2)]))
  | _ => none
theorem s_throw {x Bd Bc : Nat} (hb : Zo + Bd ≤ Bc) : KS kd sh rt bd Wp Inv M0 Ev Zo B c P (tm_throw x Bc call j) (x_throw x Bd) := by
  intro σ c' os h hc ho G L S M hB hS hM
  obtain ⟨E, Ls, Ss, H, z⟩ := σ
  rcases Ss with _ | ⟨a, Ss⟩
  · obtain rfl := svs_nil hS.2.2.1
    obtain ⟨h2, h⟩ := gdS_some (show gdS (Nat.ble (z + 7) Bd) _ = _ from h)
    cases h
    have h2 : z + 7 ≤ Bd := Nat.le_of_ble_eq_true h2
    show OKo (gd (Nat.ble (Zo + z + 7) Bc) (some [((2, x), Ev, vW 3, [], [], M, 466, Zo + z)])) _
    rw [Nat.ble_eq_true_of_le (show Zo + z + 7 ≤ Bc by omega)]
    exact ⟨_, rfl, ho _ List.mem_cons_self G _ hB hS.1 hS.2.2.2 hM rfl rfl rfl (fun q => nomatch q)⟩
  · cases h
/-! calls -/
abbrev XC : Type := Nat → YE → List SV → OV → Option (List Out)
/-- a call, followed: its ends are among those told -/
def CS (kd : Nat → Nat) (sh : Nat → Sh) (rt : Nat → Nat → Nat) (bd : Nat → Int → Int × Int) (Wp : Nat → Int → Bool) (Inv : Mem → Prop) (M0 : Mem) (Ev : Env9) (call : Call) (xc : XC) : Prop := ∀ (y : Nat) (E : YE) (as : List SV) (H : OV) (os : List Out), xc y E as H = some os → ∀ (G : List Int) (vs : List AV) (M : Mem) (P : Res → Prop), yenv G E → svs kd G as vs → ovl kd G H M → GM kd sh rt bd Wp Inv M0 M → (∀ o ∈ os, OutP kd sh rt bd Wp Inv M0 Ev G P o) → OKo (call y Ev 466 vs M) P
noncomputable def yspl (na : Nat) : List SV → List SV → List SV × List SV := Nat.rec (motive := fun _ => List SV → List SV → List SV × List SV) (fun acc S => (acc, S)) (fun _ ih acc S => match S with | v :: S => ih (v :: acc) S | [] => ([], [])) na
theorem yspl_ok {G : List Int} : ∀ (na : Nat) (acc S : List SV) (vacc st : List AV), na ≤ S.length → svs kd G acc vacc → svs kd G S st → svs kd G (yspl na acc S).1 (spl na vacc st).1 ∧ svs kd G (yspl na acc S).2 (spl na vacc st).2 := by
  intro na
  induction na with
  | zero => intro acc S vacc st _ h1 h2; exact ⟨h1, h2⟩
  | succ na ih =>
    intro acc S vacc st hl h1 h2
    cases S with
    | nil => simp at hl
    | cons a S =>
      obtain ⟨v, st', rfl, g1, g2⟩ := svs_cons h2
      exact ih (a :: acc) S (v :: vacc) st' (by simpa using hl) ⟨g1, h1⟩ g2
noncomputable def ycat (S : List SV) : Nat := List.rec 0 (fun a _ ih => Bool.rec (ih + 1) (ih + 2) (sC2 a)) S
theorem ycat_ok {G : List Int} : ∀ {S : List SV} {w : List AV}, svs kd G S w → catS w = ycat S := by
  intro S
  induction S with
  | nil => intro w h; obtain rfl := svs_nil h; rfl
  | cons a S ih =>
    intro w h
    obtain ⟨v, w', rfl, g1, g2⟩ := svs_cons h
    show (Bool.rec (catS w' + 1) (catS w' + 2) (isC2 v) : Nat) = Bool.rec (ycat S + 1) (ycat S + 2) (sC2 a)
    rw [ih g2, sC2_ok g1]
/-- the receiver's test, by number: 0 none, 1 some reference, 2 a text, 3 + ci an object of the class ci -/
noncomputable def gN (g : Nat) : List AV → Mem → Bool := match g with | 0 => gS | 1 => gI | 2 => gT | ci + 3 => gV ci
noncomputable def xgN (kd : Nat → Nat) (sh : Nat → Sh) (g : Nat) (as : List SV) : Bool := match g with
  | 0 => true
  | 1 => (match as with | .inr (.inr (.inl _)) :: _ => true | _ => false)
  | 2 => (match as with | .inr (.inr (.inr (.inl w))) :: _ => Bool.rec false (Nat.ble (w + 1) 31) (Nat.ble 4 w) | _ => false)
  | ci + 3 => (match as with | .inr (.inr (.inl r)) :: _ => (match sh (kdR kd r) with | .inl q => Nat.beq q.1 ci | _ => false) | _ => false)
theorem xgN_ok {G : List Int} {M : Mem} (hT : TI kd sh rt bd M) {g : Nat} {as : List SV} {vs : List AV} (h : xgN kd sh g as = true) (hv : svs kd G as vs) : gN g vs M = true := by
  match g, h with
  | 0, h => rfl
  | 1, h =>
    rcases as with _ | ⟨a, as⟩
    · cases h
    obtain ⟨v, w, rfl, g1, g2⟩ := svs_cons hv
    rcases a with q | q | r | q | q | q
    · cases h
    · cases h
    · obtain ⟨k, rfl, _⟩ := g1; rfl
    all_goals cases h
  | 2, h =>
    rcases as with _ | ⟨a, as⟩
    · cases h
    obtain ⟨v, w, rfl, g1, g2⟩ := svs_cons hv
    rcases a with q | q | r | q | q | q
    · cases h
    · cases h
    · cases h
    · have g1 : v = vW q := g1
      subst g1
      exact h
    all_goals cases h
  | ci + 3, h =>
    rcases as with _ | ⟨a, as⟩
    · cases h
    obtain ⟨v, w, rfl, g1, g2⟩ := svs_cons hv
    rcases a with q | q | r | q | q | q
    · cases h
    · cases h
    · obtain ⟨k, rfl, g3⟩ := g1
      have h : (match sh (kdR kd r) with | .inl q => Nat.beq q.1 ci | _ => false : Bool) = true := h
      cases hs : sh (kdR kd r) with
      | inr _ => rw [hs] at h; cases h
      | inl q =>
        rw [hs] at h
        obtain ⟨fs, f1, f2, f3⟩ := co_obj hT g3.1 (by rw [rkc_kd g3]; exact hs)
        show (match tget 9 M k with | .inl q => Nat.beq q.1 ci | _ => false : Bool) = true
        rw [f1]
        exact h
    all_goals cases h
/-- what follows on each end of a call -/
noncomputable def yjoin (f : Out → SR) (os : List Out) : SR := List.rec (some (0, [])) (fun o _ ih => ymg (f o) ih) os
theorem yjoin_mem {f : Out → SR} : ∀ {os : List Out} {r : Nat × List Out}, yjoin f os = some r → ∀ o ∈ os, ∃ x, f o = some x ∧ x.1 ≤ r.1 ∧ ∀ q ∈ x.2, q ∈ r.2 := by
  intro os
  induction os with
  | nil => intro r _ o ho; cases ho
  | cons a os ih =>
    intro r h o ho
    rcases List.mem_cons.mp ho with e | e
    · rw [e]; exact ymg_l h
    · obtain ⟨x, k1, k2, k3⟩ := ymg_r h
      obtain ⟨x2, k4, k5, k6⟩ := ih k1 o e
      exact ⟨x2, k4, Nat.le_trans k5 k2, fun q hq => k3 q (k6 q hq)⟩
theorem joinR_1 {f : Res → OR} {r : Res} : joinR f [r] = f r := by
  show app (f r) (some []) = f r
  cases f r with
  | none => rfl
  | some x => show some (x ++ []) = some x; rw [List.append_nil]
theorem gd4 {f : Res → OR} {r : Res} {y : OR} (h : joinR f [r] = y) : gd true (gd true (gd true (gd true (match (some [r] : OR) with | some rs => joinR f rs | none => none)))) = y := h
noncomputable def x_call (kd : Nat → Nat) (sh : Nat → Sh) (tx : Bool) (g y na bud Bd : Nat) (xc : XC) : (SS → SR) → SS → SR := fun k σ =>
  gdS (Nat.ble na (ylen σ.2.2.1)) (gdS (Nat.ble (ycat (yspl na [] σ.2.2.1).2) 8) (gdS (Nat.ble (σ.2.2.2.2 + bud) Bd) (gdS (xgN kd sh g (yspl na [] σ.2.2.1).1) (match xc y σ.1 (yspl na [] σ.2.2.1).1 σ.2.2.2.1 with
    | some os => yjoin (fun o => match o.1.1 with
      | 0 => k (o.2.1, σ.2.1, o.2.2.1 :: (yspl na [] σ.2.2.1).2, o.2.2.2.1, σ.2.2.2.2 + bud)
      | 1 => k (o.2.1, σ.2.1, (yspl na [] σ.2.2.1).2, o.2.2.2.1, σ.2.2.2.2 + bud)
      | 2 => gdS tx (some (0, [((2, o.1.2), o.2.1, sT 0, o.2.2.2.1, σ.2.2.2.2 + bud)]))
      | _ => none) os
    | none => none))))
/-- an end, as the caller goes on with it -/
theorem out_sat {G : List Int} {σ : SS} {L st : List AV} {M : Mem} (hS : Sat kd G σ L st M) {G' : List Int} {o : Out} {r : Res} {rest : List SV} {vrest : List AV} (hr : svs kd G rest vrest) (h1 : G <+: G') (h2 : yenv G' o.2.1) (h3 : ovl kd G' o.2.2.2.1 r.2.2.2.2.2.1) (z : Nat) : Sat kd G' (o.2.1, σ.2.1, rest, o.2.2.2.1, z) L vrest r.2.2.2.2.2.1 := ⟨h2, svs_mono h1 hS.2.1, svs_mono h1 hr, h3⟩
theorem s_call {xc : XC} {g y na bud Bd Bc : Nat} {tx : Bool} (hb : Zo + Bd ≤ Bc) (hC : CS kd sh rt bd Wp Inv M0 Ev call xc) (hK : KS kd sh rt bd Wp Inv M0 Ev Zo B c P K k) : KS kd sh rt bd Wp Inv M0 Ev Zo B c P ((Bool.rec (op_call (gN g) y na bud Bc) (op_callX (gN g) y na bud Bc) tx : Op1) call K) (x_call kd sh tx g y na bud Bd xc k) := by
  intro σ c' os h hc ho G L S M hB hS hM
  obtain ⟨h1, h⟩ := gdS_some h
  obtain ⟨h2, h⟩ := gdS_some h
  obtain ⟨h3, h⟩ := gdS_some h
  obtain ⟨h4, h⟩ := gdS_some h
  rw [ylen_eq] at h1
  obtain ⟨s1, s2⟩ := yspl_ok na [] σ.2.2.1 [] S (Nat.le_of_ble_eq_true h1) trivial hS.2.2.1
  have e1 : Nat.ble na S.length = true := by rw [← svs_len hS.2.2.1]; exact h1
  have e2 : Nat.ble (catS (spl na [] S).2) 8 = true := by rw [ycat_ok s2]; exact h2
  have e3 : Nat.ble (Zo + σ.2.2.2.2 + bud) Bc = true := Nat.ble_eq_true_of_le (by have := Nat.le_of_ble_eq_true h3; omega)
  have e4 := xgN_ok hM.1 h4 s1
  cases hx : xc y σ.1 (yspl na [] σ.2.2.1).1 σ.2.2.2.1 with
  | none => rw [hx] at h; cases h
  | some os9 =>
    rw [hx] at h
    have key : OKo (call y Ev 466 (spl na [] S).1 M) (fun r => OKo ((Bool.rec (match r with
        | ((0, _), E', v, _, _, M', n', _) => fN n' fun n' => K E' n' (Zo + σ.2.2.2.2 + bud) L (v :: (spl na [] S).2) M'
        | ((1, _), E', _, _, _, M', n', _) => fN n' fun n' => K E' n' (Zo + σ.2.2.2.2 + bud) L (spl na [] S).2 M'
        | _ => none) (match r with
        | ((0, _), E', v, _, _, M', n', _) => fN n' fun n' => K E' n' (Zo + σ.2.2.2.2 + bud) L (v :: (spl na [] S).2) M'
        | ((1, _), E', _, _, _, M', n', _) => fN n' fun n' => K E' n' (Zo + σ.2.2.2.2 + bud) L (spl na [] S).2 M'
        | ((2, x), E', _, _, _, M', n', _) => fN n' fun n' => some [((2, x), E', vW 3, [], [], M', n', Zo + σ.2.2.2.2 + bud)]
        | _ => none) tx : OR)) P) := by
      refine hC y _ _ _ os9 hx G _ M _ hS.1 s1 hS.2.2.2 hM (fun o hm G' r p1 p2 p3 p4 p5 p6 p7 p8 => ?_)
      obtain ⟨x, k1, k2, k3⟩ := yjoin_mem h o hm
      obtain ⟨⟨r1, r2⟩, rE, rv, rS, rL, rM, rn, rz⟩ := r
      obtain ⟨⟨o1, o2⟩, oE, ov, oH, oz⟩ := o
      have p5 : ((r1, r2) : Nat × Nat) = (o1, o2) := p5
      have p6 : rE = Ev := p6
      have p7 : rn = 466 := p7
      cases p5
      cases p6
      cases p7
      match r1, k1, p8 with
      | 0, k1, p8 =>
        have hu := ks_use hK (σ := (oE, σ.2.1, ov :: (yspl na [] σ.2.2.1).2, oH, σ.2.2.2.2 + bud)) (S := rv :: (spl na [] S).2) k1 (Nat.le_trans k2 hc) (fun q hq => ho q (k3 q hq)) (hB.trans p1) ⟨p2, svs_mono p1 hS.2.1, ⟨p8 rfl, svs_mono p1 s2⟩, p3⟩ p4
        cases tx with
        | false => show OKo (fN 466 fun n' => K Ev n' (Zo + σ.2.2.2.2 + bud) L (rv :: (spl na [] S).2) rM) P; rw [fN_eq, Nat.add_assoc]; exact hu
        | true => show OKo (fN 466 fun n' => K Ev n' (Zo + σ.2.2.2.2 + bud) L (rv :: (spl na [] S).2) rM) P; rw [fN_eq, Nat.add_assoc]; exact hu
      | 1, k1, p8 =>
        have hu := ks_use hK (σ := (oE, σ.2.1, (yspl na [] σ.2.2.1).2, oH, σ.2.2.2.2 + bud)) (S := (spl na [] S).2) k1 (Nat.le_trans k2 hc) (fun q hq => ho q (k3 q hq)) (hB.trans p1) ⟨p2, svs_mono p1 hS.2.1, svs_mono p1 s2, p3⟩ p4
        cases tx with
        | false => show OKo (fN 466 fun n' => K Ev n' (Zo + σ.2.2.2.2 + bud) L (spl na [] S).2 rM) P; rw [fN_eq, Nat.add_assoc]; exact hu
        | true => show OKo (fN 466 fun n' => K Ev n' (Zo + σ.2.2.2.2 + bud) L (spl na [] S).2 rM) P; rw [fN_eq, Nat.add_assoc]; exact hu
      | 2, k1, p8 =>
        obtain ⟨q1, q2⟩ := gdS_some k1
        subst q1
        cases q2
        show OKo (fN 466 fun n' => some [((2, r2), Ev, vW 3, [], [], rM, n', Zo + σ.2.2.2.2 + bud)]) P
        rw [fN_eq]
        exact ⟨_, rfl, ho _ (k3 _ List.mem_cons_self) G' _ (hB.trans p1) p2 p3 p4 rfl rfl rfl (fun q => nomatch q)⟩
      | o1 + 3, k1, p8 => exact nomatch k1
    obtain ⟨r, g1, g2⟩ := key
    cases tx with
    | false =>
      show OKo (gd (Nat.ble na S.length) (gd (Nat.ble (catS (spl na [] S).2) 8) (gd (Nat.ble (Zo + σ.2.2.2.2 + bud) Bc) (gd (gN g (spl na [] S).1 M) (match call y Ev 466 (spl na [] S).1 M with | some rs => joinR _ rs | none => none))))) P
      rw [e1, e2, e3, e4, g1]
      rw [gd4 joinR_1]
      exact g2
    | true =>
      show OKo (gd (Nat.ble na S.length) (gd (Nat.ble (catS (spl na [] S).2) 8) (gd (Nat.ble (Zo + σ.2.2.2.2 + bud) Bc) (gd (gN g (spl na [] S).1 M) (match call y Ev 466 (spl na [] S).1 M with | some rs => joinR _ rs | none => none))))) P
      rw [e1, e2, e3, e4, g1]
      rw [gd4 joinR_1]
      exact g2
end TERMS
