/-! the fair: the whole -/
theorem fr_tr {Wp W : Nat → Int → Bool} {M0 M M' : Mem} (h1 : Fr kd0 W M0 M) (h2 : Fr kd0 Wp M M') (hs : ∀ κ v, Wp κ v = true → W κ v = true) : Fr kd0 W M0 M' := fun k hk i hi => by
  rw [h2 k hk i (by
    cases e : Wp (kd0 k) i with
    | false => rfl
    | true => rw [hs _ _ e] at hi; cases hi)]
  exact h1 k hk i hi
theorem sub9 {W : Nat → Int → Bool} : ∀ κ v, pr9 κ v = true → W κ v = true := fun _ _ h => nomatch (show (false : Bool) = true from h)
noncomputable def wFN : Wrg := ct_190.2.2.2.1
theorem sub8 : allN 8 (fun v => allN 13 (fun e => allN 3 (fun st => ywsub (inW wFN) (wF8 v e st)))) = true := by decide +kernel
theorem subA : ywsub (inW wFN) [(13, 12, 13)] = true := by decide +kernel
theorem subB : allN 12 (fun e => allN 8 (fun b => ywsub (inW wFN) (wB e b))) = true := by decide +kernel
theorem subS : ywsub (inW wFN) wSF = true := by decide +kernel
section FAIR
variable {Ev : Env9} {call : Call} {d : Nat} {ct : TrT Blk d} {M0 : Mem}
theorem end_F {Wp : Nat → Int → Bool} {M : Mem} (hfr : Fr kd0 (inW wFN) M0 M) (hs : ∀ κ v, Wp κ v = true → inW wFN κ v = true) {r : Res} (r1 : r.2.1 = Ev) (r2 : r.2.2.2.2.2.2.1 = 466) (r3 : GM kd0 sh0 rt0 bd0 Wp Inv0 M r.2.2.2.2.2.1) (q : ∃ q ∈ endF, pOK kd0 q r) : EnP kd0 sh0 rt0 bd0 Inv0 Ev ct_190 M0 r := ⟨r1, r2, r3.1, r3.2.1, fr_tr hfr r3.2.2 hs, q⟩
theorem cl8s (hmC : MdC mdF d ct) (hC9 : ∀ {Wp : Nat → Int → Bool} {M : Mem}, CS kd0 sh0 rt0 bd0 Wp Inv0 M Ev call (xM kd0 sh0 rt0 bd0 un0 Wp PR0 MT0 CT9 2)) (hCC : ∀ v e st, v < 8 → e < 12 → st < 3 → ∀ {Wp : Nat → Int → Bool} {M : Mem}, CS kd0 sh0 rt0 bd0 Wp Inv0 M Ev call (xM kd0 sh0 rt0 bd0 un0 Wp PR0 MT0 (ctL [(199, ctC v e st)]) 2)) {n v e : Nat}
    (ih : ∀ v' e', v' < 8 → e' ≤ 12 → 13 * (7 - v') + (12 - e') < 13 * (7 - v) + (12 - e) → ∀ f, n * 100000 ≤ f → ∀ (L : List AV) (M : Mem), lOK kd0 (sp8 v' e' []).1 L → RI M v' e' → TI kd0 sh0 rt0 bd0 M → Inv0 M → Fr kd0 (inW wFN) M0 M → OKo (runF call d ct f 8 Ev 466 0 L [] M) (EnP kd0 sh0 rt0 bd0 Inv0 Ev ct_190 M0)) (hv : v < 8) (he : e ≤ 12) (hn : 13 * (7 - v) + (12 - e) ≤ n) : ∀ f, (n + 1) * 100000 ≤ f → ∀ (L : List AV) (M : Mem), lOK kd0 (sp8 v e []).1 L → RI M v e → TI kd0 sh0 rt0 bd0 M → Inv0 M → Fr kd0 (inW wFN) M0 M → OKo (runF call d ct f 8 Ev 466 0 L [] M) (EnP kd0 sh0 rt0 bd0 Inv0 Ev ct_190 M0) := by
  intro f hf L M hL hR hT hI hFr
  have hs := bdIs_ok (allN_ok bdSt v hv) hT (by omega)
  have hall := allN_ok (chF8_all v hv) e (by omega)
  obtain ⟨g1, g2⟩ := band (a := allN 3 (fun st => chF8 v e st)) (b := allN 4 (fun m => Bool.rec (chF83 v e m) true (Bool.rec false (Nat.blt 0 m) (Nat.beq e 0)))) hall
  have e1 : (n + 1) * 100000 = n * 100000 + 100000 := Nat.succ_mul _ _
  by_cases h3 : rdI M 453 (216 + 17 * v) < 3
  · obtain ⟨st, hst, hse⟩ : ∃ st : Nat, st < 3 ∧ rdI M 453 (216 + 17 * v) = (st : Int) := ⟨(rdI M 453 (216 + 17 * v)).toNat, by omega, by omega⟩
    have hsub := ywsub_ok (allN_ok (allN_ok (allN_ok sub8 v hv) e (by omega)) st hst)
    have hC : CS kd0 sh0 rt0 bd0 (inW (wF8 v e st)) Inv0 M Ev call (xM kd0 sh0 rt0 bd0 un0 (inW (wF8 v e st)) PR0 MT0 (ctF8 v e st) 2) := by
      unfold ctF8
      cases hb : Nat.blt e 12 with
      | false => exact hC9
      | true => exact hCC v e st hv (blt_of hb) hst
    refine seg1 (C := 100000) (F := n * 100000) hu0 hang_0 hC hmC (allN_ok g1 st hst) (by omega) ⟨hL, prFa_1 (c := 453) (i := 216 + 17 * v) (by omega) (by omega) (by omega), fun q hq => by cases hq⟩ hT hI (fun q q1 p' q2 f' q3 L' M' q4 q5 => ?_) (fun r r1 r2 r3 q => end_F hFr hsub r1 r2 r3 q)
    obtain rfl := List.mem_singleton.mp q1
    have hF' := fr_tr hFr q5.2.2 hsub
    have o9 : ∀ k : Nat, k < 466 → kd0 k ≠ 31 → ∀ i : Nat, rdI M' k i = rdI M k i := fun k hk hk2 i => q5.2.2 k hk i (inW_no (fun a ha ha2 => by
      have e9 : a.1 = 31 := by
        rcases List.mem_cons.mp ha with e9 | ha
        · rw [e9]
        rcases List.mem_cons.mp ha with e9 | ha
        · rw [e9]
        rcases List.mem_cons.mp ha with e9 | ha
        · rw [e9]
        · obtain rfl := List.mem_singleton.mp ha; rfl
      rw [e9] at ha2; exact absurd ha2.symm hk2))
    have k9 : ∀ i, rdI M' 459 i = rdI M 459 i := o9 459 (by omega) (by rw [kd_459]; decide)
    have k0 : ∀ i, rdI M' 460 i = rdI M 460 i := o9 460 (by omega) (by rw [kd_460]; decide)
    have rq : ∀ v' e', rr M' v' e' = rr M v' e' := fun v' e' => rr_eq (k0 v') (fun k _ => k9 _)
    have sq : e ≤ 12 → ∀ v' : Nat, v' < 8 → v' ≠ v → (e < 12 ∨ 1 ≤ v') → rdI M' 453 (216 + 17 * v') = rdI M 453 (216 + 17 * v') := by
      intro _ v' hv' hne hx
      refine q5.2.2 453 (by omega) _ (inW_no (fun a ha _ => ?_))
      rcases List.mem_cons.mp ha with e9 | ha
      · rw [e9]; show ((216 + 17 * v' : Nat) : Int) < ((217 + 17 * v + st : Nat) : Int) ∨ ((217 + 17 * v + st : Nat) : Int) < ((216 + 17 * v' : Nat) : Int); omega
      rcases List.mem_cons.mp ha with e9 | ha
      · rw [e9]; show ((216 + 17 * v' : Nat) : Int) < ((216 + 17 * v : Nat) : Int) ∨ ((216 + 17 * v : Nat) : Int) < ((216 + 17 * v' : Nat) : Int); omega
      rcases List.mem_cons.mp ha with e9 | ha
      · rw [e9]; show ((216 + 17 * v' : Nat) : Int) < ((36 + 15 * e : Nat) : Int) ∨ ((36 + 15 * e : Nat) : Int) < ((216 + 17 * v' : Nat) : Int); omega
      · obtain rfl := List.mem_singleton.mp ha; show ((216 + 17 * v' : Nat) : Int) < 5 ∨ (5 : Int) < ((216 + 17 * v' : Nat) : Int); omega
    obtain ⟨hR1, hR2⟩ := hR
    have later : ∀ v' : Nat, v' < 8 → v < v' → rdI M' 453 (216 + 17 * v') + rr M' v' 0 ≤ 3 := fun v' h1 h2 => by rw [sq he v' h1 (by omega) (by omega), rq]; exact hR2 v' h1 h2
    rcases List.mem_append.mp q2 with q2 | q2
    · obtain ⟨hb, q2⟩ := yif_mem q2
      have hb := blt_of hb
      have nx := @rr_next M v e
      have hit : ∀ k : Nat, k < 3 → SpOK kd0 (sB v e st k) L' M' → RI M' v (e + 1) := by
        intro k hk w
        have w1 := fact_at w.2.1 (c := 453) (i := 216 + 17 * v) (lo := (st : Int) + 1) (hi := (st : Int) + 1) List.mem_cons_self
        have w2 := fact_at w.2.1 (c := 459) (i := 3 * v + k) (lo := (e : Int)) (hi := (e : Int)) (List.mem_cons_of_mem _ List.mem_cons_self)
        have w3 := fact_at w.2.1 (c := 460) (i := v) (lo := (k : Int) + 1) (hi := 3) (List.mem_cons_of_mem _ (List.mem_cons_of_mem _ List.mem_cons_self))
        rw [k9] at w2
        rw [k0] at w3
        have := rr_hit (M := M) (v := v) (e := e) hk (by omega) (by omega)
        exact ⟨by rw [rq]; omega, later⟩
      rcases List.mem_cons.mp q2 with e9 | q2
      · subst e9
        have w1 := fact_at q4.2.1 (c := 453) (i := 216 + 17 * v) (lo := (st : Int)) (hi := (st : Int)) List.mem_cons_self
        exact ih v (e + 1) hv (by omega) (by omega) f' q3 L' M' q4.1 ⟨by rw [rq]; omega, later⟩ q5.1 q5.2.1 hF'
      rcases List.mem_cons.mp q2 with e9 | q2
      · subst e9; exact ih v (e + 1) hv (by omega) (by omega) f' q3 L' M' q4.1 (hit 0 (by omega) q4) q5.1 q5.2.1 hF'
      rcases List.mem_cons.mp q2 with e9 | q2
      · subst e9; exact ih v (e + 1) hv (by omega) (by omega) f' q3 L' M' q4.1 (hit 1 (by omega) q4) q5.1 q5.2.1 hF'
      · obtain rfl := List.mem_singleton.mp q2
        exact ih v (e + 1) hv (by omega) (by omega) f' q3 L' M' q4.1 (hit 2 (by omega) q4) q5.1 q5.2.1 hF'
    · obtain ⟨hb, q2⟩ := yif_mem q2
      have hb := blt_of hb
      obtain rfl := List.mem_singleton.mp q2
      exact ih (v + 1) 0 (by omega) (by omega) (by omega) f' q3 L' M' q4.1 ⟨later (v + 1) (by omega) (by omega), fun v' h1 h2 => later v' h1 (by omega)⟩ q5.1 q5.2.1 hF'
  · obtain ⟨hR1, hR2⟩ := hR
    have hr0 : rr M v e ≤ 0 := by omega
    have hnn := rr_none hr0
    have hm := bdAt_ok (allN_ok bC v hv) hT
    obtain ⟨m, hm4, hme⟩ : ∃ m : Nat, m < 4 ∧ rdI M 460 v = (m : Int) := ⟨(rdI M 460 v).toNat, by omega, by omega⟩
    have hkb : ∀ k, k < 3 → 0 ≤ rdI M 459 (3 * v + k) := fun k hk => (bdAt_ok (allN_ok bK (3 * v + k) (by omega)) hT).1
    have hch : chF83 v e m = true := by
      have g := allN_ok g2 m hm4
      have g : (Bool.rec (chF83 v e m) true (Bool.rec false (Nat.blt 0 m) (Nat.beq e 0)) : Bool) = true := g
      cases hz : (Bool.rec false (Nat.blt 0 m) (Nat.beq e 0) : Bool) with
      | false => rw [hz] at g; exact g
      | true =>
        obtain ⟨z1, z2⟩ := band (a := Nat.beq e 0) (b := Nat.blt 0 m) hz
        have z1 := Nat.eq_of_beq_eq_true z1
        have z2 := blt_of z2
        have := hnn 0 (by omega) (by omega)
        have := hkb 0 (by omega)
        omega
    have hfk : ∀ j, j ≤ m → PrFa kd0 [] (fK3 v e j) M := by
      intro j
      induction j with
      | zero => intro _ a ha; cases ha
      | succ j ihj =>
        intro hj
        have hj3 : j < 3 := by omega
        exact prFa_app (l := [fK (3 * v + j) 0 ((e : Int) - 1)]) (prFa_1 (c := 459) (i := 3 * v + j) (by omega) (hkb j hj3) (hnn j hj3 (by omega))) (ihj (by omega))
    refine seg1 (C := 100000) (F := n * 100000) hu0 hang_0 hC9 hmC hch (by omega) ⟨hL, prFa_app (l := [k31 (216 + 17 * v) 3 3]) (prFa_1 (c := 453) (i := 216 + 17 * v) (by omega) (by omega) (by omega)) (prFa_app (l := [fC v m m]) (prFa_1 (c := 460) (i := v) (by omega) (by omega) (by omega)) (hfk m (Nat.le_refl _))), fun q hq => by cases hq⟩ hT hI (fun q q1 p' q2 f' q3 L' M' q4 q5 => ?_) (fun r r1 r2 r3 q => end_F (Wp := pr9) hFr sub9 r1 r2 r3 q)
    obtain rfl := List.mem_singleton.mp q1
    have hF' := fr_tr hFr q5.2.2 sub9
    have o9 : ∀ k : Nat, k < 466 → ∀ i : Nat, rdI M' k i = rdI M k i := fun k hk i => q5.2.2 k hk i rfl
    have rq : ∀ v' e', rr M' v' e' = rr M v' e' := fun v' e' => rr_eq (o9 460 (by omega) v') (fun k _ => o9 459 (by omega) _)
    have later : ∀ v' : Nat, v' < 8 → v < v' → rdI M' 453 (216 + 17 * v') + rr M' v' 0 ≤ 3 := fun v' h1 h2 => by rw [o9 453 (by omega), rq]; exact hR2 v' h1 h2
    rcases List.mem_append.mp q2 with q2 | q2
    · obtain ⟨hb, q2⟩ := yif_mem q2
      have hb := blt_of hb
      obtain rfl := List.mem_singleton.mp q2
      have nx := @rr_next M v e
      exact ih v (e + 1) hv (by omega) (by omega) f' q3 L' M' q4.1 ⟨by rw [o9 453 (by omega), rq]; omega, later⟩ q5.1 q5.2.1 hF'
    · obtain ⟨hb, q2⟩ := yif_mem q2
      have hb := blt_of hb
      obtain rfl := List.mem_singleton.mp q2
      exact ih (v + 1) 0 (by omega) (by omega) (by omega) f' q3 L' M' q4.1 ⟨later (v + 1) (by omega) (by omega), fun v' h1 h2 => later v' h1 (by omega)⟩ q5.1 q5.2.1 hF'
/-- the last loops -/
theorem cl8 (hmC : MdC mdF d ct) (hC9 : ∀ {Wp : Nat → Int → Bool} {M : Mem}, CS kd0 sh0 rt0 bd0 Wp Inv0 M Ev call (xM kd0 sh0 rt0 bd0 un0 Wp PR0 MT0 CT9 2)) (hCC : ∀ v e st, v < 8 → e < 12 → st < 3 → ∀ {Wp : Nat → Int → Bool} {M : Mem}, CS kd0 sh0 rt0 bd0 Wp Inv0 M Ev call (xM kd0 sh0 rt0 bd0 un0 Wp PR0 MT0 (ctL [(199, ctC v e st)]) 2)) : ∀ (n v e : Nat), v < 8 → e ≤ 12 → 13 * (7 - v) + (12 - e) ≤ n → ∀ f, (n + 1) * 100000 ≤ f → ∀ (L : List AV) (M : Mem), lOK kd0 (sp8 v e []).1 L → RI M v e → TI kd0 sh0 rt0 bd0 M → Inv0 M → Fr kd0 (inW wFN) M0 M → OKo (runF call d ct f 8 Ev 466 0 L [] M) (EnP kd0 sh0 rt0 bd0 Inv0 Ev ct_190 M0) := by
  intro n
  induction n with
  | zero => exact fun v e hv he hn => cl8s hmC hC9 hCC (n := 0) (fun v' e' hv' he' hn' => by omega) hv he hn
  | succ n ih => exact fun v e hv he hn => cl8s hmC hC9 hCC (n := n + 1) (fun v' e' hv' he' hn' => ih v' e' hv' he' (by omega)) hv he hn
end FAIR
