/-! a contract carries what hangs on other places; ends with numbers that stood elsewhere before; a contract comes, a contract ends -/
section LIFT
variable {kd : Nat → Nat} {sh : Nat → Sh} {rt : Nat → Nat → Nat} {bd : Nat → Int → Int × Int} {un : Nat → Bool} {Wp PR : Nat → Int → Bool} {Inv : Mem → Prop} {Ev : Env9}
theorem ctr_lift {call : Call} {y : Nat} {ct : Ctr} {J : Mem → Prop} (h : CtrOK kd sh rt bd J Ev call y ct) (hJ : ∀ M, Inv M → J M) (hI : ∀ (M M' : Mem), PrFa kd [] ct.2.1 M → Inv M → J M' → TI kd sh rt bd M' → (∀ k : Nat, k < 466 → ∀ i : Nat, inW ct.2.2.2.1 (kd k) i = false → rdI M' k i = rdI M k i) → (∃ p ∈ ct.2.2.2.2, PrFa kd [] p.2.2.1 M') → Inv M') : CtrOK kd sh rt bd Inv Ev call y ct := by
  intro vs M h1 h2 h3 hT hInv
  obtain ⟨r, e, r1, r2, r3, r4, r5, p, p1, p2⟩ := h vs M h1 h2 h3 hT (hJ M hInv)
  exact ⟨r, e, r1, r2, r3, hI M _ h2 hInv r4 r3 r5 ⟨p, p1, p2.2.2.1⟩, r5, p, p1, p2⟩
theorem inW_no {w : Wrg} {κ : Nat} {i : Int} (h : ∀ a ∈ w, a.1 = κ → i < a.2.1 ∨ a.2.2 < i) : inW w κ i = false := by
  cases e : inW w κ i with
  | false => rfl
  | true =>
    obtain ⟨a, m1, m2, m3, m4⟩ := inW_mem e
    have := h a m1 m2
    omega
/-- numbers that stood elsewhere at the start -/
noncomputable def yeqs (H H0 : OV) (l : List ((Nat × Nat) × (Nat × Nat))) : Bool := List.rec true (fun q _ ih => Bool.rec false ih (match yfd (.inl q.1.1) (0, 0, ((q.1.2 : Nat) : Int)) H, yfd (.inl q.2.1) (0, 0, ((q.2.2 : Nat) : Int)) H0 with | some x, some y => eAf x y | _, _ => false)) l
theorem yeqs_ok {G G1 : List Int} (hG : G <+: G1) {H H0 : OV} {M M0 : Mem} (hH : ovl kd G1 H M) (hH0 : ovl kd G H0 M0) : ∀ {l : List ((Nat × Nat) × (Nat × Nat))}, yeqs H H0 l = true → ∀ q ∈ l, rdI M q.1.1 q.1.2 = rdI M0 q.2.1 q.2.2 := by
  intro l
  induction l with
  | nil => intro _ q hq; cases hq
  | cons a l ih =>
    intro h q hq
    obtain ⟨h1, h2⟩ := band (show (Bool.rec false (yeqs H H0 l) (match yfd (.inl a.1.1) (0, 0, ((a.1.2 : Nat) : Int)) H, yfd (.inl a.2.1) (0, 0, ((a.2.2 : Nat) : Int)) H0 with | some x, some y => eAf x y | _, _ => false) : Bool) = true from h)
    rcases List.mem_cons.mp hq with e | e
    · subst e
      cases hx : yfd (.inl q.1.1) (0, 0, ((q.1.2 : Nat) : Int)) H with
      | none => simp only [hx] at h1; cases h1
      | some x =>
        cases hy : yfd (.inl q.2.1) (0, 0, ((q.2.2 : Nat) : Int)) H0 with
        | none => simp only [hx, hy] at h1; cases h1
        | some y =>
          simp only [hx, hy] at h1
          have e := eAf_eq h1
          subst e
          have g1 := ov_at hH hx
          have g2 := yev_mono hG (ov_at hH0 hy)
          rw [g1] at g2
          exact Option.some.inj g2
    · exact ih h2 q e
abbrev PstE : Type := Pst × List ((Nat × Nat) × (Nat × Nat))
noncomputable def yanyE (o : Out) (H0 : OV) (l : List PstE) : Bool := List.rec false (fun p _ ih => Bool.rec ih true (Bool.rec false (yeqs o.2.2.2.1 H0 p.2) (ypm o p.1))) l
theorem yanyE_mem {o : Out} {H0 : OV} : ∀ {l : List PstE}, yanyE o H0 l = true → ∃ p ∈ l, ypm o p.1 = true ∧ yeqs o.2.2.2.1 H0 p.2 = true := by
  intro l
  induction l with
  | nil => intro h; cases h
  | cons p l ih =>
    intro h
    have h : (Bool.rec (yanyE o H0 l) true (Bool.rec false (yeqs o.2.2.2.1 H0 p.2) (ypm o p.1)) : Bool) = true := h
    cases hb : (Bool.rec false (yeqs o.2.2.2.1 H0 p.2) (ypm o p.1) : Bool) with
    | true => obtain ⟨h1, h2⟩ := band hb; exact ⟨p, List.mem_cons_self, h1, h2⟩
    | false => rw [hb] at h; obtain ⟨q, h1, h2⟩ := ih h; exact ⟨q, List.mem_cons_of_mem _ h1, h2⟩
noncomputable def xsegE (kd : Nat → Nat) (sh : Nat → Sh) (rt : Nat → Nat → Nat) (bd : Nat → Int → Int × Int) (un : Nat → Bool) (Wp PR : Nat → Int → Bool) (MT : Nat → Option MDT) (CT : Nat → List Ctr) (D : Nat) (md : MDT) (posts : List PstE) (C b : Nat) (p : SPt) : Bool := match yspS p with
  | some σ => (match xsegT kd sh bd (xcode kd sh rt bd un Wp PR md.2.1) (xanL md.2.2) (fun _ => none) (xM kd sh rt bd un Wp PR MT CT D) b σ with
    | some r => Bool.rec false (allL r.2 (fun o => yanyE o σ.2.2.2.1 posts)) (Nat.ble r.1 C)
    | none => false)
  | none => true
theorem xsegE_ok (hu : ∀ κ v, un κ = true → bd κ v = bd κ 0) (hI : Hang kd PR Inv) {MT : Nat → Option MDT} {CT : Nat → List Ctr} {D : Nat} {call : Call} {L : List AV} {M : Mem} (hC : CS kd sh rt bd Wp Inv M Ev call (xM kd sh rt bd un Wp PR MT CT D)) {md : MDT} {d : Nat} {ct : TrT Blk d} (hmd : MdC md d ct) {posts : List PstE} {C b f : Nat} {p : SPt} {P : Res → Prop} (h : xsegE kd sh rt bd un Wp PR MT CT D md posts C b p = true) (hf : C ≤ f) (hQ : SpOK kd p L M) (hT : TI kd sh rt bd M) (hInv : Inv M)
    (hP : ∀ r : Res, r.2.1 = Ev → r.2.2.2.2.2.2.1 = 466 → GM kd sh rt bd Wp Inv M r.2.2.2.2.2.1 → (∃ q ∈ posts, pOK kd q.1 r ∧ ∀ e ∈ q.2, rdI r.2.2.2.2.2.1 e.1.1 e.1.2 = rdI M e.2.1 e.2.2) → P r) : OKo (runF call d ct f b Ev 466 0 L [] M) P := by
  obtain ⟨σ, G, e1, e2, e3⟩ := yspS_ok hQ
  unfold xsegE at h
  rw [e1] at h
  cases hr : xsegT kd sh bd (xcode kd sh rt bd un Wp PR md.2.1) (xanL md.2.2) (fun _ => none) (xM kd sh rt bd un Wp PR MT CT D) b σ with
  | none => simp only [hr] at h; cases h
  | some r =>
    simp only [hr] at h
    obtain ⟨k1, k2⟩ := band h
    have k1 := Nat.le_of_ble_eq_true k1
    have key := xsegT_ok (Zo := 0) (F := 0) (P := P) hC (ct := ct) (fun b xl hx => by
      unfold xcode at hx
      cases hq : yat md.2.1 b with
      | none => rw [hq] at hx; cases hx
      | some q =>
        rw [hq] at hx
        cases hx
        rw [hmd b q hq]
        exact xiB_ok (Z := 0) hu hI (Nat.le_refl _) q) (stp := fun _ => none) (fun b' k hk => nomatch hk) hr (f := f) (by omega) (fun o hm G1 r1 q1 q2 q3 q4 q5 q6 q7 q8 => by
      obtain ⟨p1, p2, p3, p4⟩ := yanyE_mem (allL_ok k2 o hm)
      exact hP r1 q6 q7 q4 ⟨p1, p2, ypm_ok p3 q2 q3 q5 q8, yeqs_ok q1 q3 e2.2.2.2 p4⟩) e2 ⟨hT, hInv, fun _ _ _ _ => rfl⟩
    rw [e3] at key
    exact key
end LIFT
section CC9
variable {bo : Bo9} {R : Nat → Call} {Ev : Env9}
theorem cs9 {Inv : Mem → Prop} {PR Wp : Nat → Int → Bool} {M0 : Mem} (hI : Hang kd0 PR Inv) (hR : ∀ k y E n as M, R (k + 1) y E n as M = bo y (R k) E n as M) (hMT : ∀ y md, MT0 y = some md → MDOK bo y md) {D k : Nat} (hk : D ≤ k) : CS kd0 sh0 rt0 bd0 Wp Inv M0 Ev (R k) (xM kd0 sh0 rt0 bd0 un0 Wp PR MT0 CT9 D) := by
  have h := xM_ok (sh := sh0) (rt := rt0) (Wp := Wp) (M0 := M0) (Ev := Ev) hu0 hI hR hMT (CT := CT9) (b := 0) (fun y ct hm => by cases hm) D (k - D) (by omega)
  rw [show k - D + D = k by omega] at h
  exact h
noncomputable def k31 (i : Nat) (lo hi : Int) : Fct := ((.inl 453, (0, 0, (i : Int))), lo, hi)
/-- a contract comes -/
noncomputable def ctC (v e st : Nat) : Ctr := ([(1, 452, 0), (0, (v : Int), (v : Int)), (0, (e : Int), (e : Int))], [k31 (216 + 17 * v) st st], [], [(31, ((217 + 17 * v + st : Nat) : Int), ((217 + 17 * v + st : Nat) : Int)), (31, ((216 + 17 * v : Nat) : Int), ((216 + 17 * v : Nat) : Int)), (31, ((36 + 15 * e : Nat) : Int), ((36 + 15 * e : Nat) : Int)), (31, 5, 5)], [((1, 0), (1, 0, 0), [k31 (217 + 17 * v + st) e e, k31 (216 + 17 * v) (st + 1) (st + 1), k31 (36 + 15 * e) (v + 1) (v + 1)], [])])
noncomputable def mdC : MDT := (4, nb_X11_contractComes, [])
noncomputable def chC1 (v e st : Nat) : Bool := xseg kd0 sh0 rt0 bd0 un0 (inW (ctC v e st).2.2.2.1) pr9 MT0 CT9 2 mdC [] (ctC v e st).2.2.2.2 100000 0 (spI mdC.1 (ctC v e st).1, (ctC v e st).2.1, (ctC v e st).2.2.1)
theorem chC : allN 8 (fun v => allN 12 (fun e => allN 3 (fun st => chC1 v e st))) = true := by decide +kernel
theorem kd_453 : kd0 453 = 31 := by decide +kernel
theorem kd_31 : allN 466 (fun k => Bool.rec true (Nat.beq k 453) (Nat.beq (kd0 k) 31)) = true := by decide +kernel
theorem kd31_of {k : Nat} (hk : k < 466) (h : kd0 k = 31) : k = 453 := by
  have h1 := allN_ok kd_31 k hk
  have h2 : (Bool.rec true (Nat.beq k 453) (Nat.beq (kd0 k) 31) : Bool) = true := h1
  rw [h, Nat.beq_refl] at h2
  exact Nat.eq_of_beq_eq_true h2
theorem ct_C (hR : ∀ k y E n as M, R (k + 1) y E n as M = bo y (R k) E n as M) (hMT : ∀ y md, MT0 y = some md → MDOK bo y md) (hmd : MDOK bo 199 mdC) {v e st : Nat} (hv : v < 8) (he : e < 12) (hs : st < 3) : ∀ k, 3 ≤ k → CtrOK kd0 sh0 rt0 bd0 Inv0 Ev (R k) 199 (ctC v e st) := by
  intro k hk
  obtain ⟨k', rfl⟩ : ∃ k', k = k' + 1 := ⟨k - 1, by omega⟩
  have h := ctr_seg (C := 100000) (k := k') (ct := ctC v e st) hu0 (hang_T (kd := kd0)) hR hmd (fun M0 => cs9 (Ev := Ev) hang_T hR hMT (by omega)) (Nat.le_of_ble_eq_true rfl) (allN_ok (allN_ok (allN_ok chC v hv) e he) st hs) (by decide)
  refine ctr_lift h (fun _ _ => trivial) (fun M M' g1 g2 _ g4 g5 g6 => ?_)
  have fr : ∀ i : Nat, i ≠ 217 + 17 * v + st → i ≠ 216 + 17 * v → i ≠ 36 + 15 * e → i ≠ 5 → rdI M' 453 i = rdI M 453 i := by
    intro i h1 h2 h3 h4
    refine g5 453 (by omega) i (inW_no (fun a ha _ => ?_))
    rcases List.mem_cons.mp ha with e1 | ha
    · rw [e1]; show (i : Int) < ((217 + 17 * v + st : Nat) : Int) ∨ ((217 + 17 * v + st : Nat) : Int) < (i : Int); omega
    rcases List.mem_cons.mp ha with e1 | ha
    · rw [e1]; show (i : Int) < ((216 + 17 * v : Nat) : Int) ∨ ((216 + 17 * v : Nat) : Int) < (i : Int); omega
    rcases List.mem_cons.mp ha with e1 | ha
    · rw [e1]; show (i : Int) < ((36 + 15 * e : Nat) : Int) ∨ ((36 + 15 * e : Nat) : Int) < (i : Int); omega
    · obtain rfl := List.mem_singleton.mp ha; show (i : Int) < 5 ∨ (5 : Int) < (i : Int); omega
  obtain ⟨p, hp, hf⟩ := g6
  obtain rfl := List.mem_singleton.mp hp
  have f0 := fact_at g1 (c := 453) (i := 216 + 17 * v) (lo := st) (hi := st) List.mem_cons_self
  have f1 := fact_at hf (c := 453) (i := 217 + 17 * v + st) (lo := e) (hi := e) List.mem_cons_self
  have f2 := fact_at hf (c := 453) (i := 216 + 17 * v) (lo := st + 1) (hi := st + 1) (List.mem_cons_of_mem _ List.mem_cons_self)
  have f3 := fact_at hf (c := 453) (i := 36 + 15 * e) (lo := v + 1) (hi := v + 1) (List.mem_cons_of_mem _ (List.mem_cons_of_mem _ List.mem_cons_self))
  refine Inv0_s ?_ (fun j hj hj2 i _ => g5 j hj i (inW_no (fun a ha ha2 => ?_))) g2
  · intro e' he' v' hv' h1
    rw [show 0 + (36 + 15 * e') = 36 + 15 * e' by omega] at h1
    by_cases q1 : e' = e
    · subst q1
      have q2 : v' = v := by omega
      subst q2
      exact ⟨st, hs, by rw [show 0 + (216 + 17 * v') = 216 + 17 * v' by omega]; omega, by rw [show 0 + (217 + 17 * v' + st) = 217 + 17 * v' + st by omega]; omega⟩
    · rw [fr _ (by omega) (by omega) (by omega) (by omega)] at h1
      obtain ⟨p, p1, p2, p3⟩ := g2.1 (453, 0) (by decide) e' he' v' hv' (by rw [show (453, 0).2 + (36 + 15 * e') = 36 + 15 * e' by show 0 + (36 + 15 * e') = _; omega]; exact h1)
      have p2 : (p : Int) < rdI M 453 (0 + (216 + 17 * v')) := p2
      have p3 : rdI M 453 (0 + (217 + 17 * v' + p)) = (e' : Int) := p3
      rw [show 0 + (216 + 17 * v') = 216 + 17 * v' by omega] at p2
      rw [show 0 + (217 + 17 * v' + p) = 217 + 17 * v' + p by omega] at p3
      refine ⟨p, p1, ?_, ?_⟩
      · rw [show 0 + (216 + 17 * v') = 216 + 17 * v' by omega]
        by_cases q2 : v' = v
        · subst q2; omega
        · rw [fr _ (by omega) (by omega) (by omega) (by omega)]; exact p2
      · rw [show 0 + (217 + 17 * v' + p) = 217 + 17 * v' + p by omega]
        by_cases q2 : v' = v
        · subst q2
          rw [fr _ (by omega) (by omega) (by omega) (by omega)]; exact p3
        · rw [fr _ (by omega) (by omega) (by omega) (by omega)]; exact p3
  · have e9 : a.1 = 31 := by
      rcases List.mem_cons.mp ha with e1 | ha
      · rw [e1]
      rcases List.mem_cons.mp ha with e1 | ha
      · rw [e1]
      rcases List.mem_cons.mp ha with e1 | ha
      · rw [e1]
      · obtain rfl := List.mem_singleton.mp ha; rfl
    rw [e9] at ha2
    exact absurd (kd31_of hj ha2.symm) hj2
end CC9
