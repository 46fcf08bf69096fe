/-! the reference's executeCommands: its errors -/
noncomputable def pZe : List Pst := [((0, 0), (0, -2147483648, 2147483647), fM 16 0 0 :: fM 22 0 0 :: fM 23 (-1) (-1) :: gdR 453 0, [])]
noncomputable def sZ7e (j : Nat) (f : List Fct) : SPt := ([some (1, 452, 0), some (0, (j : Int), (j : Int))], f ++ (fM 16 0 0 :: fM 22 0 0 :: fM 23 (-1) (-1) :: gdR 453 0), [])
theorem chZ6e : xseg kd0 sh0 rt0 bd0 un0 (inW wZ) PR0 MT0 (ctL [(258, ctKp 453)]) 0 mdZ [(7, [sZ7e 0 []])] [] 10000000 6 (sZ [fM 16 0 0, fM 22 0 0, fM 23 (-1) (-1)]) = true := by decide +kernel
noncomputable def chZ7e (j : Nat) : Bool := Bool.rec false (allL relL (fun q => xseg kd0 sh0 rt0 bd0 un0 (inW wZ) PR0 MT0 (ctL clZ) 8 mdZ [(7, [sZ7e (j + 1) []])] pZe 10000000 7 (sZ7e j (fM 25 ((j : Int) + 1) 30 :: relT j q)))) (xseg kd0 sh0 rt0 bd0 un0 (inW wZ) PR0 MT0 CT9 0 mdZ [] pZe 10000000 7 (sZ7e j [fM 25 0 j]))
theorem chZ7e_all : allN 30 chZ7e = true := by decide +kernel
theorem chZ7e_30 : xseg kd0 sh0 rt0 bd0 un0 (inW wZ) PR0 MT0 CT9 0 mdZ [] pZe 10000000 7 (sZ7e 30 [fM 25 0 30]) = true := by decide +kernel
def ZeP (r : Res) : Prop := r.1 = (0, 0) ∧ rdI r.2.2.2.2.2.1 452 22 = 0 ∧ rdI r.2.2.2.2.2.1 452 23 = -1
theorem exR_st {Ev : Env9} {k' : Nat} (hk : 119 ≤ k') {d : Nat} {ct : TrT Blk d} (hmC : MdC mdZ d ct) : ∀ f, 700000000 ≤ f → ∀ (L : List AV) (M : Mem), SpOK kd0 (sZ [fM 16 0 0, fM 22 0 0, fM 23 (-1) (-1)]) L M → TI kd0 sh0 rt0 bd0 M → Inv0 M → OKo (runF (runM k') d ct f 6 Ev 466 0 L [] M) ZeP := by
  have hC9 : ∀ {Wp PR : Nat → Int → Bool} {Inv : Mem → Prop} {M : Mem} (D : Nat), Hang kd0 PR Inv → D ≤ 4 → CS kd0 sh0 rt0 bd0 Wp Inv M Ev (runM k') (xM kd0 sh0 rt0 bd0 un0 Wp PR MT0 CT9 D) := fun D hI hD => cs9 hI hR9 hMT9 (by omega)
  have hK : CK Ev 110 (258, ctKp 453) := fun k hk => keeps_ok (Or.inl rfl) kp_453 k (Nat.le_trans (by decide) hk)
  have hCZ : ∀ {M : Mem}, CS kd0 sh0 rt0 bd0 (inW wZ) Inv0 M Ev (runM k') (xM kd0 sh0 rt0 bd0 un0 (inW wZ) PR0 MT0 (ctL clZ) 8) := csL hang_0 (ctL_ok (b := 110) (l := clZ) (And.intro (CK_up f_199 (by decide)) (And.intro (CK_up cc_223 (by decide)) (And.intro (CK_up f_190 (by decide)) (And.intro (CK_up cc_204 (by decide)) (And.intro (CK_up cc_174 (by decide)) (And.intro (CK_up hh_228 (by decide)) trivial))))))) (by omega)
  have hP : ∀ (r : Res), (∃ q ∈ pZe, pOK kd0 q r) → ZeP r := fun r q => by
    obtain ⟨p, hp, hp2⟩ := q
    obtain rfl := List.mem_singleton.mp hp
    have a := fact_at hp2.2.2.1 (c := 452) (i := 22) (lo := 0) (hi := 0) (List.mem_cons_of_mem _ List.mem_cons_self)
    have b := fact_at hp2.2.2.1 (c := 452) (i := 23) (lo := -1) (hi := -1) (List.mem_cons_of_mem _ (List.mem_cons_of_mem _ List.mem_cons_self))
    exact ⟨hp2.1, Int.le_antisymm a.2 a.1, Int.le_antisymm b.2 b.1⟩
  -- the commands are done
  have stop : ∀ j, j ≤ 30 → xseg kd0 sh0 rt0 bd0 un0 (inW wZ) PR0 MT0 CT9 0 mdZ [] pZe 10000000 7 (sZ7e j [fM 25 0 j]) = true → ∀ f, 10000000 ≤ f → ∀ (L : List AV) (M : Mem), SpOK kd0 (sZ7e j []) L M → TI kd0 sh0 rt0 bd0 M → Inv0 M → rdI M 452 25 ≤ (j : Int) → OKo (runF (runM k') d ct f 7 Ev 466 0 L [] M) ZeP := by
    intro j hj hx f hf L M hQ hT hI hc
    have hb := bdAt_ok bTold hT
    exact seg1 (C := 10000000) (F := 0) hu0 hang_0 (hC9 0 hang_0 (by omega)) hmC hx hf ⟨hQ.1, prFa_app (l := [fM 25 0 j]) (prFa_1 (c := 452) (i := 25) (by decide) hb.1 hc) hQ.2.1, fun q hq => by cases hq⟩ hT hI (fun q q1 => by cases q1) (fun r r1 r2 r3 q => hP r q)
  have do7 : ∀ m j, j + m = 30 → ∀ f, fu 20000000 20000000 m ≤ f → ∀ (L : List AV) (M : Mem), SpOK kd0 (sZ7e j []) L M → TI kd0 sh0 rt0 bd0 M → Inv0 M → OKo (runF (runM k') d ct f 7 Ev 466 0 L [] M) ZeP := by
    intro m
    induction m with
    | zero =>
      intro j hj f hf L M hQ hT hI
      rw [fu_0] at hf
      have e : j = 30 := by omega
      subst e
      exact stop 30 (Nat.le_refl _) chZ7e_30 f (Nat.le_trans (nle rfl) hf) L M hQ hT hI (bdAt_ok bTold hT).2
    | succ m ih =>
      intro j hj f hf L M hQ hT hI
      have hj30 : j < 30 := by omega
      have hj31 : j + 1 + m = 30 := by omega
      rw [fu_s] at hf
      have hZ := fu_b 20000000 20000000 m
      generalize fu 20000000 20000000 m = Z at ih hf hZ
      obtain ⟨g1, g2⟩ := band (a := xseg kd0 sh0 rt0 bd0 un0 (inW wZ) PR0 MT0 CT9 0 mdZ [] pZe 10000000 7 (sZ7e j [fM 25 0 j])) (b := allL relL (fun q => xseg kd0 sh0 rt0 bd0 un0 (inW wZ) PR0 MT0 (ctL clZ) 8 mdZ [(7, [sZ7e (j + 1) []])] pZe 10000000 7 (sZ7e j (fM 25 ((j : Int) + 1) 30 :: relT j q)))) (allN_ok chZ7e_all j hj30)
      by_cases hc : rdI M 452 25 ≤ (j : Int)
      · exact stop j (Nat.le_of_lt hj30) g1 f (fue3 hf (nle rfl)) L M hQ hT hI hc
      · have hb := bdAt_ok bTold hT
        obtain ⟨q, hq, hqf⟩ := relT_of (hI.2.1.2.2 j hj30 (Int.not_le.mp hc))
        refine seg1 (C := 10000000) (F := Z) hu0 hang_0 hCZ hmC (allL_ok g2 q hq) (fue4 hf (nle rfl)) ⟨hQ.1, prFa_app (l := [fM 25 ((j : Int) + 1) 30]) (prFa_1 (c := 452) (i := 25) (by decide) (ile1 hc) hb.2) (prFa_app (l := relT j q) hqf hQ.2.1), fun q hq => by cases hq⟩ hT hI (fun w w1 p w2 f' w3 L' M' w4 w5 => ?_) (fun r r1 r2 r3 q => hP r q)
        obtain rfl := List.mem_singleton.mp w1
        obtain rfl := List.mem_singleton.mp w2
        exact ih (j + 1) hj31 f' w3 L' M' w4 w5.1 w5.2.1
  have do6 : ∀ f, 700000000 ≤ f → ∀ (L : List AV) (M : Mem), SpOK kd0 (sZ [fM 16 0 0, fM 22 0 0, fM 23 (-1) (-1)]) L M → TI kd0 sh0 rt0 bd0 M → Inv0 M → OKo (runF (runM k') d ct f 6 Ev 466 0 L [] M) ZeP := by
    intro f hf L M hQ hT hI
    refine seg1 (posts := []) (C := 10000000) (F := 640000000) hu0 hang_0 (cs1 (b := 110) hang_0 hK (by omega)) hmC chZ6e (Nat.le_trans (nle rfl) hf) hQ hT hI (fun w w1 p w2 f' w3 L' M' w4 w5 => ?_) (fun r _ _ _ q => by obtain ⟨p, hp, _⟩ := q; cases hp)
    obtain rfl := List.mem_singleton.mp w1
    obtain rfl := List.mem_singleton.mp w2
    have hfu : fu 20000000 20000000 30 ≤ 640000000 := Nat.le_of_ble_eq_true (by decide +kernel)
    exact do7 30 0 (by omega) f' (Nat.le_trans hfu w3) L' M' w4 w5.1 w5.2.1
  exact do6
/-! kinds and bounds, where all but some places stand -/
theorem ti_mix {M M' : Mem} (hT : TI kd0 sh0 rt0 bd0 M) (hS : TS M') (h : ∀ k : Nat, k < 466 → ∀ i : Nat, rN M' k i = rN M k i ∨ ((bd0 (kd0 k) (i : Int)).1 ≤ rdI M' k i ∧ rdI M' k i ≤ (bd0 (kd0 k) (i : Int)).2)) : TI kd0 sh0 rt0 bd0 M' := by
  intro k hk
  have h1 := hT k hk
  have h2 := hS k hk
  have h3 := h k hk
  unfold cOK at h1 h2 ⊢
  have e0 : ∀ i, rN M' k i = rNc (tget 9 M' k) i := fun _ => rfl
  have e1 : ∀ i, rN M k i = rNc (tget 9 M k) i := fun _ => rfl
  have e2 : ∀ i, rdI M' k i = rdC (tget 9 M' k) i := fun _ => rfl
  generalize sh0 (kd0 k) = s9 at h1 h2 ⊢
  rcases s9 with q | q | q | N
  · obtain ⟨fs, a1, a2, a3⟩ := h1
    obtain ⟨gs, b1, b2, b3⟩ := h2
    refine ⟨gs, b1, b2, fun i ft hi => ?_⟩
    have c1 := a3 i ft hi
    have c2 := b3 i ft hi
    match ft, c1, c2 with
    | 0, c1, c2 =>
      obtain ⟨x, x1, x2, x3⟩ := c1
      obtain ⟨y, y1, y2, -⟩ := c2
      refine ⟨y, y1, y2, ?_⟩
      have u1 : rN M' k i = y := by
        rw [e0, b1]
        show rN1 (nth gs i) = y
        rw [y1]
        rfl
      have u2 : rN M k i = x := by
        rw [e1, a1]
        show rN1 (nth fs i) = x
        rw [x1]
        rfl
      have u3 : rdI M' k i = sg y := by
        rw [e2, b1]
        show avI (nth gs i) = sg y
        rw [y1]
        rfl
      rcases h3 i with w | w
      · rw [u1, u2] at w
        rw [w]
        exact x3
      · rw [u3] at w
        exact w
    | 1, c1, c2 => exact c2
    | f + 2, c1, c2 => exact c2
  · obtain ⟨p, a1, a2, a3⟩ := h1
    obtain ⟨p', b1, b2, -⟩ := h2
    refine ⟨p', b1, b2, fun j hj => ?_⟩
    have u1 : rN M' k j = pget p' j := by
      rw [e0, b1]
      rfl
    have u2 : rN M k j = pget p j := by
      rw [e1, a1]
      rfl
    have u3 : rdI M' k j = sg (pget p' j) := by
      rw [e2, b1]
      rfl
    rcases h3 j with w | w
    · rw [u1, u2] at w
      rw [w]
      exact a3 j hj
    · rw [u3] at w
      exact w
  · exact h2
  · exact h2
