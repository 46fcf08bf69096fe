/-! pieces whose stations tell a number by what stood somewhere at their start -/
abbrev Rl9 : Type := (Nat × Nat) × (Nat × Nat) × Int
noncomputable def yeqd (H H0 : OV) (l : List Rl9) : Bool := List.rec true (fun q _ ih => Bool.rec false ih (match yfd (.inl q.1.1) (0, 0, ((q.1.2 : Nat) : Int)) H, yfd (.inl q.2.1.1) (0, 0, ((q.2.1.2 : Nat) : Int)) H0 with | some x, some y => eAf x (y.1, y.2.1, y.2.2 + q.2.2) | _, _ => false)) l
section REL9
variable {kd : Nat → Nat} {sh : Nat → Sh} {rt : Nat → Nat → Nat} {bd : Nat → Int → Int × Int} {un : Nat → Bool} {Wp PR : Nat → Int → Bool} {Inv : Mem → Prop} {Ev : Env9}
theorem ov_at {G : List Int} {H : OV} {M : Mem} (hH : ovl kd G H M) {c i : Nat} {x : Aff} (h : yfd (.inl c) (0, 0, ((i : Nat) : Int)) H = some x) : yev G x = some (rdI M c i) := by
  obtain ⟨k, j, ⟨_, h1⟩, h2, h3⟩ := hH _ (yfd_mem h)
  have e1 : k = c := h1
  have h2 : yev G (0, 0, ((i : Nat) : Int)) = some (j : Int) := h2
  rw [yev_c] at h2
  have e2 : i = j := by have := Option.some.inj h2; omega
  rw [← e1, e2]
  exact h3
theorem yev_off {G : List Int} {y : Aff} {v δ : Int} (h : yev G y = some v) : yev G (y.1, y.2.1, y.2.2 + δ) = some (v + δ) := by
  obtain ⟨g, c, o⟩ := y
  rcases yev_some h with ⟨h1, h2⟩ | ⟨h1, x, h2, h3⟩
  · have h1 : c = 0 := h1
    subst h1
    show yev G (g, 0, o + δ) = _
    rw [yev_c, h2]
  · rw [yev_g (q := (g, c, o + δ)) h1 h2]
    have h3 : v = c * x + o := h3
    congr 1
    show c * x + (o + δ) = v + δ
    omega
theorem yeqd_ok {G G1 : List Int} (hG : G <+: G1) {H H0 : OV} {M M0 : Mem} (hH : ovl kd G1 H M) (hH0 : ovl kd G H0 M0) : ∀ {l : List Rl9}, yeqd H H0 l = true → ∀ q ∈ l, rdI M q.1.1 q.1.2 = rdI M0 q.2.1.1 q.2.1.2 + q.2.2 := by
  intro l
  induction l with
  | nil => intro _ q hq; cases hq
  | cons a l ih =>
    intro h q hq
    obtain ⟨h1, h2⟩ := band (show (Bool.rec false (yeqd H H0 l) (match yfd (.inl a.1.1) (0, 0, ((a.1.2 : Nat) : Int)) H, yfd (.inl a.2.1.1) (0, 0, ((a.2.1.2 : Nat) : Int)) H0 with | some x, some y => eAf x (y.1, y.2.1, y.2.2 + a.2.2) | _, _ => false) : Bool) = true from h)
    rcases List.mem_cons.mp hq with e | e
    · subst e
      cases hx : yfd (.inl q.1.1) (0, 0, ((q.1.2 : Nat) : Int)) H with
      | none => simp only [hx] at h1; cases h1
      | some x =>
        cases hy : yfd (.inl q.2.1.1) (0, 0, ((q.2.1.2 : Nat) : Int)) H0 with
        | none => simp only [hx, hy] at h1; cases h1
        | some y =>
          simp only [hx, hy] at h1
          have e := eAf_eq h1
          have g1 := ov_at hH hx
          have g2 := yev_off (δ := q.2.2) (yev_mono hG (ov_at hH0 hy))
          rw [e, g2] at g1
          exact (Option.some.inj g1).symm
    · exact ih h2 q e
noncomputable def yspR (kd : Nat → Nat) (sh : Nat → Sh) (bd : Nat → Int → Int × Int) (H0 : OV) (σ : SS) (l : List (SPt × List Rl9)) : Bool := List.rec false (fun p _ ih => Bool.rec ih true (Bool.rec false (yeqd σ.2.2.2.1 H0 p.2) (ysp kd sh bd p.1 σ))) l
theorem yspR_mem {H0 : OV} {σ : SS} : ∀ {l : List (SPt × List Rl9)}, yspR kd sh bd H0 σ l = true → ∃ p ∈ l, ysp kd sh bd p.1 σ = true ∧ yeqd σ.2.2.2.1 H0 p.2 = true := by
  intro l
  induction l with
  | nil => intro h; cases h
  | cons p l ih =>
    intro h
    have h : (Bool.rec (yspR kd sh bd H0 σ l) true (Bool.rec false (yeqd σ.2.2.2.1 H0 p.2) (ysp kd sh bd p.1 σ)) : Bool) = true := h
    cases hb : (Bool.rec false (yeqd σ.2.2.2.1 H0 p.2) (ysp kd sh bd p.1 σ) : Bool) with
    | true => obtain ⟨h1, h2⟩ := band hb; exact ⟨p, List.mem_cons_self, h1, h2⟩
    | false => rw [hb] at h; obtain ⟨q, h1, h2⟩ := ih h; exact ⟨q, List.mem_cons_of_mem _ h1, h2⟩
noncomputable def stpR (kd : Nat → Nat) (sh : Nat → Sh) (bd : Nat → Int → Int × Int) (H0 : OV) (sts : List (Nat × List (SPt × List Rl9))) (b : Nat) : Option (SS → Bool) := List.rec none (fun q _ ih => Bool.rec ih (some (fun σ => yspR kd sh bd H0 σ q.2)) (Nat.beq q.1 b)) sts
theorem stpR_mem {H0 : OV} {b : Nat} {k : SS → Bool} : ∀ {sts : List (Nat × List (SPt × List Rl9))}, stpR kd sh bd H0 sts b = some k → ∃ q ∈ sts, q.1 = b ∧ k = fun σ => yspR kd sh bd H0 σ q.2 := by
  intro sts
  induction sts with
  | nil => intro h; cases h
  | cons q sts ih =>
    intro h
    have h : (Bool.rec (stpR kd sh bd H0 sts b) (some (fun σ => yspR kd sh bd H0 σ q.2)) (Nat.beq q.1 b) : Option (SS → Bool)) = some k := h
    cases hb : Nat.beq q.1 b with
    | true => rw [hb] at h; cases h; exact ⟨q, List.mem_cons_self, Nat.eq_of_beq_eq_true hb, rfl⟩
    | false =>
      rw [hb] at h
      obtain ⟨q', h1, h2⟩ := ih h
      exact ⟨q', List.mem_cons_of_mem _ h1, h2⟩
noncomputable def xsegR (kd : Nat → Nat) (sh : Nat → Sh) (rt : Nat → Nat → Nat) (bd : Nat → Int → Int × Int) (un : Nat → Bool) (Wp PR : Nat → Int → Bool) (MT : Nat → Option MDT) (CT : Nat → List Ctr) (D : Nat) (md : MDT) (sts : List (Nat × List (SPt × List Rl9))) (posts : List Pst) (C b : Nat) (p : SPt) : Bool := match yspS p with
  | some σ => (match xsegT kd sh bd (xcode kd sh rt bd un Wp PR md.2.1) (xanL md.2.2) (stpR kd sh bd σ.2.2.2.1 sts) (xM kd sh rt bd un Wp PR MT CT D) b σ with
    | some r => Bool.rec false (yallo posts r.2) (Nat.ble r.1 C)
    | none => false)
  | none => true
theorem segR (hu : ∀ κ v, un κ = true → bd κ v = bd κ 0) (hI : Hang kd PR Inv) {MT : Nat → Option MDT} {CT : Nat → List Ctr} {D : Nat} {call : Call} {L : List AV} {M : Mem} (hC : CS kd sh rt bd Wp Inv M Ev call (xM kd sh rt bd un Wp PR MT CT D)) {md : MDT} {d : Nat} {ct : TrT Blk d} (hmd : MdC md d ct) {sts : List (Nat × List (SPt × List Rl9))} {posts : List Pst} {C F b f : Nat} {p : SPt} {P : Res → Prop} (h : xsegR kd sh rt bd un Wp PR MT CT D md sts posts C b p = true) (hf : C + F ≤ f) (hQ : SpOK kd p L M) (hT : TI kd sh rt bd M) (hInv : Inv M)
    (hst : ∀ q ∈ sts, ∀ p' ∈ q.2, ∀ f', F ≤ f' → ∀ (L' : List AV) (M' : Mem), SpOK kd p'.1 L' M' → (∀ e ∈ p'.2, rdI M' e.1.1 e.1.2 = rdI M e.2.1.1 e.2.1.2 + e.2.2) → GM kd sh rt bd Wp Inv M M' → OKo (runF call d ct f' q.1 Ev 466 0 L' [] M') P)
    (hP : ∀ r : Res, r.2.1 = Ev → r.2.2.2.2.2.2.1 = 466 → GM kd sh rt bd Wp Inv M r.2.2.2.2.2.1 → (∃ q ∈ posts, pOK kd q r) → P r) : OKo (runF call d ct f b Ev 466 0 L [] M) P := by
  obtain ⟨σ, G, e1, e2, e3⟩ := yspS_ok hQ
  unfold xsegR at h
  rw [e1] at h
  cases hr : xsegT kd sh bd (xcode kd sh rt bd un Wp PR md.2.1) (xanL md.2.2) (stpR kd sh bd σ.2.2.2.1 sts) (xM kd sh rt bd un Wp PR MT CT D) b σ with
  | none => simp only [hr] at h; cases h
  | some r =>
    simp only [hr] at h
    obtain ⟨k1, k2⟩ := band h
    have k1 := Nat.le_of_ble_eq_true k1
    have key := xsegT_ok (Zo := 0) (F := F) (P := P) (G := G) hC (ct := ct) (fun b xl hx => by
      unfold xcode at hx
      cases hq : yat md.2.1 b with
      | none => rw [hq] at hx; cases hx
      | some q =>
        rw [hq] at hx
        cases hx
        rw [hmd b q hq]
        exact xiB_ok (Z := 0) hu hI (Nat.le_refl _) q) (stp := stpR kd sh bd σ.2.2.2.1 sts) (fun b' k hk f' hf' σ' G' L' S' M' hk1 hG hS' hM' => by
      obtain ⟨q, m1, m2, m3⟩ := stpR_mem hk
      subst m3
      obtain ⟨p', s3, s5, s6⟩ := yspR_mem hk1
      obtain ⟨s1, s2, s4⟩ := ysp_ok s5 hS' hM'.1
      rw [s1, s2, ← m2]
      exact hst q m1 p' s3 f' hf' L' M' s4 (yeqd_ok hG hS'.2.2.2 e2.2.2.2 s6) hM') hr (f := f) (by omega) (fun o hm G1 r1 q1 q2 q3 q4 q5 q6 q7 q8 => by
      obtain ⟨p1, p2, p3⟩ := yanyp_mem (yallo_mem k2 o hm)
      exact hP r1 q6 q7 q4 ⟨p1, p2, ypm_ok p3 q2 q3 q5 q8⟩) e2 ⟨hT, hInv, fun _ _ _ _ => rfl⟩
    rw [e3] at key
    exact key
end REL9
