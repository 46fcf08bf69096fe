section
/-! the fair: the whole -/
theorem fr_tr {Wp W : Nat → Int → Bool} {M0 M M' : Mem} (h1 : Fr kd0 W M0 M) (h2 : Fr kd0 Wp M M') (hs : ∀ κ v, Wp κ v = true → W κ v = true) : Fr kd0 W M0 M' := fun k hk i hi => by
  rw [h2 k hk i (by
    cases e : Wp (kd0 k) i with
    | false => rfl
    | true => rw [hs _ _ e] at hi; cases hi)]
  exact h1 k hk i hi
theorem sub9 {W : Nat → Int → Bool} : ∀ κ v, pr9 κ v = true → W κ v = true := fun _ _ h => nomatch (show (false : Bool) = true from h)
noncomputable def wFN : Wrg := ct_190.2.2.2.1
theorem sub8 : allN 8 (fun v => allN 13 (fun e => allN 3 (fun st => ywsub (inW wFN) (wF8 v e st)))) = true := by decide +kernel
theorem subA : ywsub (inW wFN) [(13, 12, 13)] = true := by decide +kernel
theorem subB : allN 12 (fun e => allN 8 (fun b => ywsub (inW wFN) (wB e b))) = true := by decide +kernel
theorem subS : ywsub (inW wFN) wSF = true := by decide +kernel
section FAIR
variable {Ev : Env9} {call : Call} {d : Nat} {ct : TrT Blk d} {M0 : Mem}
theorem end_F {Wp : Nat → Int → Bool} {M : Mem} (hfr : Fr kd0 (inW wFN) M0 M) (hs : ∀ κ v, Wp κ v = true → inW wFN κ v = true) {r : Res} (r1 : r.2.1 = Ev) (r2 : r.2.2.2.2.2.2.1 = 466) (r3 : GM kd0 sh0 rt0 bd0 Wp Inv0 M r.2.2.2.2.2.1) (q : ∃ q ∈ endF, pOK kd0 q r) : EnP kd0 sh0 rt0 bd0 Inv0 Ev ct_190 M0 r := ⟨r1, r2, r3.1, r3.2.1, fr_tr hfr r3.2.2 hs, q⟩
theorem cl8s (hmC : MdC mdF d ct) (hC9 : ∀ {Wp : Nat → Int → Bool} {M : Mem}, CS kd0 sh0 rt0 bd0 Wp Inv0 M Ev call (xM kd0 sh0 rt0 bd0 un0 Wp PR0 MT0 CT9 2)) (hCC : ∀ v e st, v < 8 → e < 12 → st < 3 → ∀ {Wp : Nat → Int → Bool} {M : Mem}, CS kd0 sh0 rt0 bd0 Wp Inv0 M Ev call (xM kd0 sh0 rt0 bd0 un0 Wp PR0 MT0 (ctL [(199, ctC v e st)]) 2)) {n v e : Nat}
    (ih : ∀ v' e', v' < 8 → e' ≤ 12 → 13 * (7 - v') + (12 - e') < 13 * (7 - v) + (12 - e) → ∀ f, n * 100000 ≤ f → ∀ (L : List AV) (M : Mem), lOK kd0 (sp8 v' e' []).1 L → RI M v' e' → TI kd0 sh0 rt0 bd0 M → Inv0 M → Fr kd0 (inW wFN) M0 M → OKo (runF call d ct f 8 Ev 466 0 L [] M) (EnP kd0 sh0 rt0 bd0 Inv0 Ev ct_190 M0)) (hv : v < 8) (he : e ≤ 12) (hn : 13 * (7 - v) + (12 - e) ≤ n) : ∀ f, (n + 1) * 100000 ≤ f → ∀ (L : List AV) (M : Mem), lOK kd0 (sp8 v e []).1 L → RI M v e → TI kd0 sh0 rt0 bd0 M → Inv0 M → Fr kd0 (inW wFN) M0 M → OKo (runF call d ct f 8 Ev 466 0 L [] M) (EnP kd0 sh0 rt0 bd0 Inv0 Ev ct_190 M0) := by
  intro f hf L M hL hR hT hI hFr
  have hs := bdIs_ok (allN_ok bdSt v hv) hT (by omega)
  have hall := allN_ok (chF8_all v hv) e (by omega)
  obtain ⟨g1, g2⟩ := band (a := allN 3 (fun st => chF8 v e st)) (b := allN 4 (fun m => Bool.rec (chF83 v e m) true (Bool.rec false (Nat.blt 0 m) (Nat.beq e 0)))) hall
  have e1 : (n + 1) * 100000 = n * 100000 + 100000 := Nat.succ_mul _ _
  by_cases h3 : rdI M 453 (216 + 17 * v) < 3
  · obtain ⟨st, hst, hse⟩ : ∃ st : Nat, st < 3 ∧ rdI M 453 (216 + 17 * v) = (st : Int) := ⟨(rdI M 453 (216 + 17 * v)).toNat, by omega, by omega⟩
    have hsub := ywsub_ok (allN_ok (allN_ok (allN_ok sub8 v hv) e (by omega)) st hst)
    have hC : CS kd0 sh0 rt0 bd0 (inW (wF8 v e st)) Inv0 M Ev call (xM kd0 sh0 rt0 bd0 un0 (inW (wF8 v e st)) PR0 MT0 (ctF8 v e st) 2) := by
      unfold ctF8
      cases hb : Nat.blt e 12 with
      | false => exact hC9
      | true => exact hCC v e st hv (blt_of hb) hst
    refine seg1 (C := 100000) (F := n * 100000) hu0 hang_0 hC hmC (allN_ok g1 st hst) (by omega) ⟨hL, prFa_1 (c := 453) (i := 216 + 17 * v) (by omega) (by omega) (by omega), fun q hq => by cases hq⟩ hT hI (fun q q1 p' q2 f' q3 L' M' q4 q5 => ?_) (fun r r1 r2 r3 q => end_F hFr hsub r1 r2 r3 q)
    obtain rfl := List.mem_singleton.mp q1
    have hF' := fr_tr hFr q5.2.2 hsub
    have o9 : ∀ k : Nat, k < 466 → kd0 k ≠ 31 → ∀ i : Nat, rdI M' k i = rdI M k i := fun k hk hk2 i => q5.2.2 k hk i (inW_no (fun a ha ha2 => by
      have e9 : a.1 = 31 := by
        rcases List.mem_cons.mp ha with e9 | ha
        · rw [e9]
        rcases List.mem_cons.mp ha with e9 | ha
        · rw [e9]
        rcases List.mem_cons.mp ha with e9 | ha
        · rw [e9]
        · obtain rfl := List.mem_singleton.mp ha; rfl
      rw [e9] at ha2; exact absurd ha2.symm hk2))
    have k9 : ∀ i, rdI M' 459 i = rdI M 459 i := o9 459 (by omega) (by rw [kd_459]; decide)
    have k0 : ∀ i, rdI M' 460 i = rdI M 460 i := o9 460 (by omega) (by rw [kd_460]; decide)
    have rq : ∀ v' e', rr M' v' e' = rr M v' e' := fun v' e' => rr_eq (k0 v') (fun k _ => k9 _)
    have sq : e ≤ 12 → ∀ v' : Nat, v' < 8 → v' ≠ v → (e < 12 ∨ 1 ≤ v') → rdI M' 453 (216 + 17 * v') = rdI M 453 (216 + 17 * v') := by
      intro _ v' hv' hne hx
      refine q5.2.2 453 (by omega) _ (inW_no (fun a ha _ => ?_))
      rcases List.mem_cons.mp ha with e9 | ha
      · rw [e9]; show ((216 + 17 * v' : Nat) : Int) < ((217 + 17 * v + st : Nat) : Int) ∨ ((217 + 17 * v + st : Nat) : Int) < ((216 + 17 * v' : Nat) : Int); omega
      rcases List.mem_cons.mp ha with e9 | ha
      · rw [e9]; show ((216 + 17 * v' : Nat) : Int) < ((216 + 17 * v : Nat) : Int) ∨ ((216 + 17 * v : Nat) : Int) < ((216 + 17 * v' : Nat) : Int); omega
      rcases List.mem_cons.mp ha with e9 | ha
      · rw [e9]; show ((216 + 17 * v' : Nat) : Int) < ((36 + 15 * e : Nat) : Int) ∨ ((36 + 15 * e : Nat) : Int) < ((216 + 17 * v' : Nat) : Int); omega
      · obtain rfl := List.mem_singleton.mp ha; show ((216 + 17 * v' : Nat) : Int) < 5 ∨ (5 : Int) < ((216 + 17 * v' : Nat) : Int); omega
    obtain ⟨hR1, hR2⟩ := hR
    have later : ∀ v' : Nat, v' < 8 → v < v' → rdI M' 453 (216 + 17 * v') + rr M' v' 0 ≤ 3 := fun v' h1 h2 => by rw [sq he v' h1 (by omega) (by omega), rq]; exact hR2 v' h1 h2
    rcases List.mem_append.mp q2 with q2 | q2
    · obtain ⟨hb, q2⟩ := yif_mem q2
      have hb := blt_of hb
      have nx := @rr_next M v e
      have hit : ∀ k : Nat, k < 3 → SpOK kd0 (sB v e st k) L' M' → RI M' v (e + 1) := by
        intro k hk w
        have w1 := fact_at w.2.1 (c := 453) (i := 216 + 17 * v) (lo := (st : Int) + 1) (hi := (st : Int) + 1) List.mem_cons_self
        have w2 := fact_at w.2.1 (c := 459) (i := 3 * v + k) (lo := (e : Int)) (hi := (e : Int)) (List.mem_cons_of_mem _ List.mem_cons_self)
        have w3 := fact_at w.2.1 (c := 460) (i := v) (lo := (k : Int) + 1) (hi := 3) (List.mem_cons_of_mem _ (List.mem_cons_of_mem _ List.mem_cons_self))
        rw [k9] at w2
        rw [k0] at w3
        have := rr_hit (M := M) (v := v) (e := e) hk (by omega) (by omega)
        exact ⟨by rw [rq]; omega, later⟩
      rcases List.mem_cons.mp q2 with e9 | q2
      · subst e9
        have w1 := fact_at q4.2.1 (c := 453) (i := 216 + 17 * v) (lo := (st : Int)) (hi := (st : Int)) List.mem_cons_self
        exact ih v (e + 1) hv (by omega) (by omega) f' q3 L' M' q4.1 ⟨by rw [rq]; omega, later⟩ q5.1 q5.2.1 hF'
      rcases List.mem_cons.mp q2 with e9 | q2
      · subst e9; exact ih v (e + 1) hv (by omega) (by omega) f' q3 L' M' q4.1 (hit 0 (by omega) q4) q5.1 q5.2.1 hF'
      rcases List.mem_cons.mp q2 with e9 | q2
      · subst e9; exact ih v (e + 1) hv (by omega) (by omega) f' q3 L' M' q4.1 (hit 1 (by omega) q4) q5.1 q5.2.1 hF'
      · obtain rfl := List.mem_singleton.mp q2
        exact ih v (e + 1) hv (by omega) (by omega) f' q3 L' M' q4.1 (hit 2 (by omega) q4) q5.1 q5.2.1 hF'
    · obtain ⟨hb, q2⟩ := yif_mem q2
      have hb := blt_of hb
      obtain rfl := List.mem_singleton.mp q2
      exact ih (v + 1) 0 (by omega) (by omega) (by omega) f' q3 L' M' q4.1 ⟨later (v + 1) (by omega) (by omega), fun v' h1 h2 => later v' h1 (by omega)⟩ q5.1 q5.2.1 hF'
  · obtain ⟨hR1, hR2⟩ := hR
    have hr0 : rr M v e ≤ 0 := by omega
    have hnn := rr_none hr0
    have hm := bdAt_ok (allN_ok bC v hv) hT
    obtain ⟨m, hm4, hme⟩ : ∃ m : Nat, m < 4 ∧ rdI M 460 v = (m : Int) := ⟨(rdI M 460 v).toNat, by omega, by omega⟩
    have hkb : ∀ k, k < 3 → 0 ≤ rdI M 459 (3 * v + k) := fun k hk => (bdAt_ok (allN_ok bK (3 * v + k) (by omega)) hT).1
    have hch : chF83 v e m = true := by
      have g := allN_ok g2 m hm4
      have g : (Bool.rec (chF83 v e m) true (Bool.rec false (Nat.blt 0 m) (Nat.beq e 0)) : Bool) = true := g
      cases hz : (Bool.rec false (Nat.blt 0 m) (Nat.beq e 0) : Bool) with
      | false => rw [hz] at g; exact g
      | true =>
        obtain ⟨z1, z2⟩ := band (a := Nat.beq e 0) (b := Nat.blt 0 m) hz
        have z1 := Nat.eq_of_beq_eq_true z1
        have z2 := blt_of z2
        have := hnn 0 (by omega) (by omega)
        have := hkb 0 (by omega)
        omega
    have hfk : ∀ j, j ≤ m → PrFa kd0 [] (fK3 v e j) M := by
      intro j
      induction j with
      | zero => intro _ a ha; cases ha
      | succ j ihj =>
        intro hj
        have hj3 : j < 3 := by omega
        exact prFa_app (l := [fK (3 * v + j) 0 ((e : Int) - 1)]) (prFa_1 (c := 459) (i := 3 * v + j) (by omega) (hkb j hj3) (hnn j hj3 (by omega))) (ihj (by omega))
    refine seg1 (C := 100000) (F := n * 100000) hu0 hang_0 hC9 hmC hch (by omega) ⟨hL, prFa_app (l := [k31 (216 + 17 * v) 3 3]) (prFa_1 (c := 453) (i := 216 + 17 * v) (by omega) (by omega) (by omega)) (prFa_app (l := [fC v m m]) (prFa_1 (c := 460) (i := v) (by omega) (by omega) (by omega)) (hfk m (Nat.le_refl _))), fun q hq => by cases hq⟩ hT hI (fun q q1 p' q2 f' q3 L' M' q4 q5 => ?_) (fun r r1 r2 r3 q => end_F (Wp := pr9) hFr sub9 r1 r2 r3 q)
    obtain rfl := List.mem_singleton.mp q1
    have hF' := fr_tr hFr q5.2.2 sub9
    have o9 : ∀ k : Nat, k < 466 → ∀ i : Nat, rdI M' k i = rdI M k i := fun k hk i => q5.2.2 k hk i rfl
    have rq : ∀ v' e', rr M' v' e' = rr M v' e' := fun v' e' => rr_eq (o9 460 (by omega) v') (fun k _ => o9 459 (by omega) _)
    have later : ∀ v' : Nat, v' < 8 → v < v' → rdI M' 453 (216 + 17 * v') + rr M' v' 0 ≤ 3 := fun v' h1 h2 => by rw [o9 453 (by omega), rq]; exact hR2 v' h1 h2
    rcases List.mem_append.mp q2 with q2 | q2
    · obtain ⟨hb, q2⟩ := yif_mem q2
      have hb := blt_of hb
      obtain rfl := List.mem_singleton.mp q2
      have nx := @rr_next M v e
      exact ih v (e + 1) hv (by omega) (by omega) f' q3 L' M' q4.1 ⟨by rw [o9 453 (by omega), rq]; omega, later⟩ q5.1 q5.2.1 hF'
    · obtain ⟨hb, q2⟩ := yif_mem q2
      have hb := blt_of hb
      obtain rfl := List.mem_singleton.mp q2
      exact ih (v + 1) 0 (by omega) (by omega) (by omega) f' q3 L' M' q4.1 ⟨later (v + 1) (by omega) (by omega), fun v' h1 h2 => later v' h1 (by omega)⟩ q5.1 q5.2.1 hF'
/-- the last loops -/
theorem cl8 (hmC : MdC mdF d ct) (hC9 : ∀ {Wp : Nat → Int → Bool} {M : Mem}, CS kd0 sh0 rt0 bd0 Wp Inv0 M Ev call (xM kd0 sh0 rt0 bd0 un0 Wp PR0 MT0 CT9 2)) (hCC : ∀ v e st, v < 8 → e < 12 → st < 3 → ∀ {Wp : Nat → Int → Bool} {M : Mem}, CS kd0 sh0 rt0 bd0 Wp Inv0 M Ev call (xM kd0 sh0 rt0 bd0 un0 Wp PR0 MT0 (ctL [(199, ctC v e st)]) 2)) : ∀ (n v e : Nat), v < 8 → e ≤ 12 → 13 * (7 - v) + (12 - e) ≤ n → ∀ f, (n + 1) * 100000 ≤ f → ∀ (L : List AV) (M : Mem), lOK kd0 (sp8 v e []).1 L → RI M v e → TI kd0 sh0 rt0 bd0 M → Inv0 M → Fr kd0 (inW wFN) M0 M → OKo (runF call d ct f 8 Ev 466 0 L [] M) (EnP kd0 sh0 rt0 bd0 Inv0 Ev ct_190 M0) := by
  intro n
  induction n with
  | zero => exact fun v e hv he hn => cl8s hmC hC9 hCC (n := 0) (fun v' e' hv' he' hn' => by omega) hv he hn
  | succ n ih => exact fun v e hv he hn => cl8s hmC hC9 hCC (n := n + 1) (fun v' e' hv' he' hn' => ih v' e' hv' he' (by omega)) hv he hn
end FAIR
end
section
/-! the fair: applications; its contract -/
/-- fuel, n rounds of a behind b -/
noncomputable def fu (a b : Nat) (n : Nat) : Nat := Nat.rec b (fun _ x => x + a) n
theorem fu_s (a b n : Nat) : fu a b (n + 1) = fu a b n + a := rfl
theorem fu_b (a b n : Nat) : b ≤ fu a b n := by
  induction n with
  | zero => exact Nat.le_refl _
  | succ n ih => rw [fu_s]; exact Nat.le_trans ih (Nat.le_add_right _ _)
theorem fue {Z f a b c : Nat} (h : Z + c ≤ f) (hc : a + b = c) : a + (Z + b) ≤ f := by omega
theorem fue0 {Z f c : Nat} (h : Z + c ≤ f) : c + Z ≤ f := by omega
theorem fue1 {Z f b c : Nat} (h : Z + c ≤ f) (hb : b ≤ Z) : b + c ≤ f := by omega
theorem fue2 {Z f b : Nat} (h : Z + b ≤ f) : Z ≤ f := by omega
theorem fu_0 (a b : Nat) : fu a b 0 = b := rfl
noncomputable def muF (M : Mem) : Nat := (rdI M 452 13).toNat + 2 * cnt M 96
section FAIR2
variable {Ev : Env9} {call : Call} {d : Nat} {ct : TrT Blk d} {M0 : Mem}
theorem cl5 (hmC : MdC mdF d ct) (hC9 : ∀ {Wp : Nat → Int → Bool} {M : Mem}, CS kd0 sh0 rt0 bd0 Wp Inv0 M Ev call (xM kd0 sh0 rt0 bd0 un0 Wp PR0 MT0 CT9 2)) (hC0 : ∀ {Wp : Nat → Int → Bool} {M : Mem}, CS kd0 sh0 rt0 bd0 Wp Inv0 M Ev call (xM kd0 sh0 rt0 bd0 un0 Wp PR0 MT0 CT9 0)) (hCC : ∀ v e st, v < 8 → e < 12 → st < 3 → ∀ {Wp : Nat → Int → Bool} {M : Mem}, CS kd0 sh0 rt0 bd0 Wp Inv0 M Ev call (xM kd0 sh0 rt0 bd0 un0 Wp PR0 MT0 (ctL [(199, ctC v e st)]) 2)) : ∀ f, 20000000 ≤ f → ∀ (L : List AV) (M : Mem), lOK kd0 sp1.1 L → FI M → TI kd0 sh0 rt0 bd0 M → Inv0 M → Fr kd0 (inW wFN) M0 M → OKo (runF call d ct f 5 Ev 466 0 L [] M) (EnP kd0 sh0 rt0 bd0 Inv0 Ev ct_190 M0) := by
  intro f hf L M hL hF hT hI hFr
  refine seg1 (C := 100000) (F := 19000000) hu0 hang_0 hC0 hmC chF5 (by omega) ⟨hL, (fun q hq => by cases hq), (fun q hq => by cases hq)⟩ hT hI (fun q q1 p' q2 f' q3 L' M' q4 q5 => ?_) (fun r r1 r2 r3 q => end_F (Wp := pr9) hFr sub9 r1 r2 r3 q)
  obtain rfl := List.mem_singleton.mp q1
  obtain rfl := List.mem_singleton.mp q2
  have o9 : ∀ k : Nat, k < 466 → ∀ i : Nat, rdI M' k i = rdI M k i := fun k hk i => q5.2.2 k hk i rfl
  have hR : ∀ v : Nat, v < 8 → rdI M' 453 (216 + 17 * v) + rr M' v 0 ≤ 3 := fun v hv => by
    have h1 := rr_0 q5.1 hv
    have h2 := hF v hv
    rw [o9 460 (by omega)] at h1
    rw [o9 453 (by omega)]
    omega
  exact cl8 hmC hC9 hCC 103 0 0 (by omega) (by omega) (by omega) f' (by omega) L' M' q4.1 ⟨hR 0 (by omega), fun v' h1 _ => hR v' h1⟩ q5.1 q5.2.1 (fr_tr hFr q5.2.2 sub9)
theorem l3_mem {e : Nat} {p : SPt × List Rl9} (h : p ∈ l3 e) : ∃ b, b < 8 ∧ p = (s3 e b [fA (12 * b + e) 0 0], r13 (-1)) := by
  suffices H : ∀ n, p ∈ (Nat.rec [] (fun b ih => (s3 e b [fA (12 * b + e) 0 0], r13 (-1)) :: ih) n : List (SPt × List Rl9)) → ∃ b, b < n ∧ p = (s3 e b [fA (12 * b + e) 0 0], r13 (-1)) from H 8 h
  intro n
  induction n with
  | zero => intro h; cases h
  | succ n ih =>
    intro h
    rcases List.mem_cons.mp h with q | q
    · exact ⟨n, by omega, q⟩
    · obtain ⟨b, h1, h2⟩ := ih q
      exact ⟨b, by omega, h2⟩
theorem cl1 (hmC : MdC mdF d ct) (hC0 : ∀ {Wp : Nat → Int → Bool} {M : Mem}, CS kd0 sh0 rt0 bd0 Wp Inv0 M Ev call (xM kd0 sh0 rt0 bd0 un0 Wp PR0 MT0 CT9 0)) (hCA : ∀ e, e < 12 → ∀ {Wp : Nat → Int → Bool} {M : Mem}, CS kd0 sh0 rt0 bd0 Wp Inv0 M Ev call (xM kd0 sh0 rt0 bd0 un0 Wp PR0 MT0 (ctL [(203, ctNV e)]) 2)) (hCB : ∀ {Wp : Nat → Int → Bool} {M : Mem}, CS kd0 sh0 rt0 bd0 Wp Inv0 M Ev call (xM kd0 sh0 rt0 bd0 un0 Wp PR0 MT0 (ctL clB) 4))
    (h5 : ∀ f, 20000000 ≤ f → ∀ (L : List AV) (M : Mem), lOK kd0 sp1.1 L → FI M → TI kd0 sh0 rt0 bd0 M → Inv0 M → Fr kd0 (inW wFN) M0 M → OKo (runF call d ct f 5 Ev 466 0 L [] M) (EnP kd0 sh0 rt0 bd0 Inv0 Ev ct_190 M0)) : ∀ (n : Nat) f, fu 200000 20200000 n ≤ f → ∀ (L : List AV) (M : Mem), lOK kd0 sp1.1 L → FI M → rdI M 452 13 ≤ 12 → muF M ≤ n → TI kd0 sh0 rt0 bd0 M → Inv0 M → Fr kd0 (inW wFN) M0 M → OKo (runF call d ct f 1 Ev 466 0 L [] M) (EnP kd0 sh0 rt0 bd0 Inv0 Ev ct_190 M0) := by
  intro n
  induction n with
  | zero =>
    intro f hf L M hL hF h12 hmu hT hI hFr
    rw [fu_0] at hf
    have hq := bdAt_ok bqm hT
    unfold muF at hmu
    refine seg1 (C := 100000) (F := 20000000) hu0 hang_0 hC0 hmC chA0 (by omega) ⟨hL, prFa_1 (c := 452) (i := 13) (by omega) (by omega) (by omega), fun q hq => by cases hq⟩ hT hI (fun q q1 p' q2 f' q3 L' M' q4 q5 => ?_) (fun r _ _ _ q => by obtain ⟨p, hp, _⟩ := q; cases hp)
    obtain rfl := List.mem_singleton.mp q1
    obtain rfl := List.mem_singleton.mp q2
    have o9 : ∀ k : Nat, k < 466 → ∀ i : Nat, rdI M' k i = rdI M k i := fun k hk i => q5.2.2 k hk i rfl
    exact h5 f' (by omega) L' M' q4.1 (fun v hv => by rw [o9 453 (by omega), o9 460 (by omega)]; exact hF v hv) q5.1 q5.2.1 (fr_tr hFr q5.2.2 sub9)
  | succ n ih =>
    intro f hf L M hL hF h12 hmu hT hI hFr
    have hq := bdAt_ok bqm hT
    rw [fu_s] at hf
    have hZ := fu_b 200000 20200000 n
    generalize fu 200000 20200000 n = Z at ih hf hZ
    by_cases h0 : rdI M 452 13 = 0
    · refine seg1 (C := 100000) (F := 20000000) hu0 hang_0 hC0 hmC chA0 (by omega) ⟨hL, prFa_1 (c := 452) (i := 13) (by omega) (by omega) (by omega), fun q hq => by cases hq⟩ hT hI (fun q q1 p' q2 f' q3 L' M' q4 q5 => ?_) (fun r _ _ _ q => by obtain ⟨p, hp, _⟩ := q; cases hp)
      obtain rfl := List.mem_singleton.mp q1
      obtain rfl := List.mem_singleton.mp q2
      have o9 : ∀ k : Nat, k < 466 → ∀ i : Nat, rdI M' k i = rdI M k i := fun k hk i => q5.2.2 k hk i rfl
      exact h5 f' (by omega) L' M' q4.1 (fun v hv => by rw [o9 453 (by omega), o9 460 (by omega)]; exact hF v hv) q5.1 q5.2.1 (fr_tr hFr q5.2.2 sub9)
    · have hqf := bdAt_ok bqf hT
      obtain ⟨q0, hq0, hqe⟩ : ∃ q : Nat, q < 16 ∧ rdI M 452 12 = (q : Int) := ⟨(rdI M 452 12).toNat, by omega, by omega⟩
      have hqv := bdAt_ok (allN_ok bQ q0 hq0) hT
      obtain ⟨e, he, hee⟩ : ∃ e : Nat, e < 12 ∧ rdI M 458 q0 = (e : Int) := ⟨(rdI M 458 q0).toNat, by omega, by omega⟩
      refine segR (C := 100000) (F := Z + 100000) hu0 hang_0 (hCA e he) hmC (allN_ok (allN_ok chA_all q0 hq0) e he) (fue hf rfl) ⟨hL, prFa_app (l := [fM 13 1 12]) (prFa_1 (c := 452) (i := 13) (by omega) (by omega) (by omega)) (prFa_app (l := [fM 12 q0 q0]) (prFa_1 (c := 452) (i := 12) (by omega) (by omega) (by omega)) (prFa_1 (c := 458) (i := q0) (by omega) (by omega) (by omega))), fun q hq => by cases hq⟩ hT hI (fun q q1 p' q2 f' q3 L' M' q4 qr q5 => ?_) (fun r _ _ _ q => by obtain ⟨p, hp, _⟩ := q; cases hp)
      have hF1 := fr_tr hFr q5.2.2 (ywsub_ok subA)
      have o9 : ∀ k : Nat, k < 466 → kd0 k ≠ 13 → ∀ i : Nat, rdI M' k i = rdI M k i := fun k hk hk2 i => q5.2.2 k hk i (inW_no (fun a ha ha2 => by obtain rfl := List.mem_singleton.mp ha; exact absurd ha2.symm hk2))
      have oS : ∀ i, rdI M' 453 i = rdI M 453 i := o9 453 (by omega) (by rw [kd_453]; decide)
      have oC : ∀ i, rdI M' 460 i = rdI M 460 i := o9 460 (by omega) (by rw [kd_460]; decide)
      have oA : ∀ i, rdI M' 461 i = rdI M 461 i := o9 461 (by omega) (by rw [kd_461]; decide)
      have hF' : FI M' := fun v hv => by rw [oS, oC]; exact hF v hv
      have hcn : cnt M' 96 = cnt M 96 := cnt_eq (fun j _ => oA j)
      have hr1 : rdI M' 452 13 = rdI M 452 13 - 1 := by
        have hmem : ∀ p' : SPt × List Rl9, p'.2 = r13 (-1) → (∀ e ∈ p'.2, rdI M' e.1.1 e.1.2 = rdI M e.2.1.1 e.2.1.2 + e.2.2) → rdI M' 452 13 = rdI M 452 13 - 1 := fun p' h1 h2 => by
          rw [h1] at h2
          exact h2 _ (List.mem_singleton.mpr rfl)
        rcases List.mem_cons.mp q1 with z | z
        · subst z
          obtain ⟨b, _, hb⟩ := l3_mem q2
          exact hmem p' (by rw [hb]) qr
        · obtain rfl := List.mem_singleton.mp z
          obtain rfl := List.mem_singleton.mp q2
          exact hmem _ rfl qr
      have hmu1 : muF M' ≤ n := by
        unfold muF at hmu ⊢
        rw [hcn, hr1]
        omega
      rcases List.mem_cons.mp q1 with z | z
      · subst z
        obtain ⟨b, hb, hbe⟩ := l3_mem q2
        subst hbe
        have hA0 := fact_at q4.2.1 (c := 461) (i := 12 * b + e) (lo := 0) (hi := 0) List.mem_cons_self
        have hS := bdIs_ok (allN_ok bdSt b hb) q5.1 (by omega)
        have hCb := bdAt_ok (allN_ok bC b hb) q5.1
        have hFb := hF' b hb
        obtain ⟨st, hst, hse⟩ : ∃ st : Nat, st < 4 ∧ rdI M' 453 (216 + 17 * b) = (st : Int) := ⟨(rdI M' 453 (216 + 17 * b)).toNat, by omega, by omega⟩
        obtain ⟨m, hm, hme⟩ : ∃ m : Nat, m < 4 ∧ rdI M' 460 b = (m : Int) := ⟨(rdI M' 460 b).toNat, by omega, by omega⟩
        have hq1 := bdAt_ok bqm q5.1
        have hch : chB e b st m = true := by
          have g := allN_ok (allN_ok (allN_ok (chB_all b hb) e he) st hst) m hm
          have g : (Bool.rec true (chB e b st m) (Nat.ble (st + m) 3) : Bool) = true := g
          rw [Nat.ble_eq_true_of_le (show st + m ≤ 3 by omega)] at g
          exact g
        have hsB := ywsub_ok (allN_ok (allN_ok subB e he) b hb)
        refine segR (C := 100000) (F := Z) hu0 hang_0 hCB hmC hch (fue0 q3) ⟨q4.1, prFa_app (l := [fA (12 * b + e) 0 0]) q4.2.1 (prFa_app (l := [k31 (216 + 17 * b) st st]) (prFa_1 (c := 453) (i := 216 + 17 * b) (by omega) (by omega) (by omega)) (prFa_app (l := [fC b m m]) (prFa_1 (c := 460) (i := b) (by omega) (by omega) (by omega)) (prFa_1 (c := 452) (i := 13) (by omega) (by omega) (by omega)))), fun q hq => by cases hq⟩ q5.1 q5.2.1 (fun w w1 p2 w2 f2 w3 L2 M2 w4 wr w5 => ?_) (fun r _ _ _ q => by obtain ⟨p, hp, _⟩ := q; cases hp)
        obtain rfl := List.mem_singleton.mp w1
        have hF2 := fr_tr hF1 w5.2.2 hsB
        have u9 : ∀ (k : Nat), k < 466 → ∀ i : Nat, (kd0 k ≠ 39 ∨ i ≠ 12 * b + e) → (kd0 k ≠ 38 ∨ i ≠ b) → kd0 k ≠ 37 → kd0 k ≠ 36 → (kd0 k ≠ 13 ∨ i ≠ 13) → rdI M2 k i = rdI M' k i := by
          intro k hk i x1 x2 x3 x4 x5
          refine w5.2.2 k hk i (inW_no (fun a ha ha2 => ?_))
          rcases List.mem_cons.mp ha with e9 | ha
          · rw [e9] at ha2 ⊢
            rcases x1 with x | x
            · exact absurd ha2.symm x
            · show (i : Int) < ((12 * b + e : Nat) : Int) ∨ ((12 * b + e : Nat) : Int) < (i : Int); omega
          rcases List.mem_cons.mp ha with e9 | ha
          · rw [e9] at ha2 ⊢
            rcases x2 with x | x
            · exact absurd ha2.symm x
            · show (i : Int) < (b : Int) ∨ (b : Int) < (i : Int); omega
          rcases List.mem_cons.mp ha with e9 | ha
          · rw [e9] at ha2; exact absurd ha2.symm x3
          rcases List.mem_cons.mp ha with e9 | ha
          · rw [e9] at ha2; exact absurd ha2.symm x4
          · obtain rfl := List.mem_singleton.mp ha
            rcases x5 with x | x
            · exact absurd ha2.symm x
            · show (i : Int) < 13 ∨ (13 : Int) < (i : Int); omega
        have vS : ∀ i, rdI M2 453 i = rdI M' 453 i := fun i => u9 453 (by omega) i (Or.inl (by rw [kd_453]; decide)) (Or.inl (by rw [kd_453]; decide)) (by rw [kd_453]; decide) (by rw [kd_453]; decide) (Or.inl (by rw [kd_453]; decide))
        have vC : ∀ i, i ≠ b → rdI M2 460 i = rdI M' 460 i := fun i hi => u9 460 (by omega) i (Or.inl (by rw [kd_460]; decide)) (Or.inr hi) (by rw [kd_460]; decide) (by rw [kd_460]; decide) (Or.inl (by rw [kd_460]; decide))
        have vA : ∀ i, i ≠ 12 * b + e → rdI M2 461 i = rdI M' 461 i := fun i hi => u9 461 (by omega) i (Or.inr hi) (Or.inl (by rw [kd_461]; decide)) (by rw [kd_461]; decide) (by rw [kd_461]; decide) (Or.inl (by rw [kd_461]; decide))
        have go : ∀ (m2 : Int) (δ : Int), rdI M2 461 (12 * b + e) = 1 → rdI M2 460 b = m2 → m2 + st ≤ 3 → rdI M2 452 13 = rdI M' 452 13 + δ → (δ = 0 ∨ δ = 1) → lOK kd0 sp1.1 L2 → OKo (runF call d ct f2 1 Ev 466 0 L2 [] M2) (EnP kd0 sh0 rt0 bd0 Inv0 Ev ct_190 M0) := by
          intro m2 δ y1 y2 y3 y4 y5 y6
          have hd := cnt_dec (M := M') (M' := M2) (i := 12 * b + e) (by omega) (by omega) (n := 96) (by omega) (fun j _ hj => vA j hj)
          refine ih f2 w3 L2 M2 y6 (fun v hv => ?_) (by omega) ?_ w5.1 w5.2.1 hF2
          · rw [vS]
            by_cases x : v = b
            · subst x; omega
            · rw [vC v x]; exact hF' v hv
          · unfold muF at hmu1 ⊢
            omega
        rcases List.mem_cons.mp w2 with z | w2
        · subst z
          have y1 := fact_at w4.2.1 (c := 461) (i := 12 * b + e) (lo := 1) (hi := 1) List.mem_cons_self
          have y2 := fact_at w4.2.1 (c := 460) (i := b) (lo := (m : Int)) (hi := (m : Int)) (List.mem_cons_of_mem _ List.mem_cons_self)
          exact go m 1 (by omega) (by omega) (by omega) (wr _ (List.mem_singleton.mpr rfl)) (Or.inr rfl) w4.1
        · obtain ⟨hz, w2⟩ := yif_mem w2
          have hz := blt_of hz
          obtain rfl := List.mem_singleton.mp w2
          have y1 := fact_at w4.2.1 (c := 461) (i := 12 * b + e) (lo := 1) (hi := 1) List.mem_cons_self
          have y2 := fact_at w4.2.1 (c := 460) (i := b) (lo := (m : Int) + 1) (hi := (m : Int) + 1) (List.mem_cons_of_mem _ List.mem_cons_self)
          exact go (m + 1) 0 (by omega) (by omega) (by omega) (wr _ (List.mem_singleton.mpr rfl)) (Or.inl rfl) w4.1
      · obtain rfl := List.mem_singleton.mp z
        obtain rfl := List.mem_singleton.mp q2
        exact ih f' (fue2 q3) L' M' q4.1 hF' (by omega) hmu1 q5.1 q5.2.1 hF1
end FAIR2
theorem zK_at {M : Mem} (h : PrFa kd0 [] zK M) : ∀ v : Nat, v < 8 → rdI M 460 v = 0 := by
  intro v hv
  suffices H : ∀ n, v < n → PrFa kd0 [] (Nat.rec [] (fun v ih => ((.inl 460, (0, 0, ((v : Nat) : Int))), 0, 0) :: ih) n : List Fct) M → rdI M 460 v = 0 from H 8 hv h
  intro n
  induction n with
  | zero => intro h; omega
  | succ n ih =>
    intro h1 h2
    by_cases e : v = n
    · subst e
      have := fact_at h2 (c := 460) (i := v) (lo := 0) (hi := 0) List.mem_cons_self
      omega
    · exact ih (by omega) (fun a ha => h2 a (List.mem_cons_of_mem _ ha))
theorem hh_190 {Ev : Env9} (hAc : CK Ev 20 (196, ct_178)) (hBV : CK Ev 20 (197, ct_179)) (hLK : CK Ev 30 (204, ct_276)) (hBE : CK Ev 30 (198, ct_182)) : CK Ev 60 (208, ct_190) := by
  intro k hk
  obtain ⟨k', rfl⟩ : ∃ k', k = k' + 1 := ⟨k - 1, by omega⟩
  refine ctr_st hR9 (md := mdF) (show MDOK bo9 208 mdF from mo_X11_fairNow rfl _) (Nat.le_of_ble_eq_true rfl) (fun d ct hmC M0 hI0 _ f hf L M hQ hM => ?_)
  have hC9 : ∀ D, D ≤ 4 → ∀ {Wp : Nat → Int → Bool} {M : Mem}, CS kd0 sh0 rt0 bd0 Wp Inv0 M Ev (runM k') (xM kd0 sh0 rt0 bd0 un0 Wp PR0 MT0 CT9 D) := fun D hD => cs9 hang_0 hR9 hMT9 (by omega)
  have hCC : ∀ v e st, v < 8 → e < 12 → st < 3 → ∀ {Wp : Nat → Int → Bool} {M : Mem}, CS kd0 sh0 rt0 bd0 Wp Inv0 M Ev (runM k') (xM kd0 sh0 rt0 bd0 un0 Wp PR0 MT0 (ctL [(199, ctC v e st)]) 2) := fun v e st hv he hs => cs1 (b := 3) hang_0 (ct_C hR9 hMT9 (mo_X11_contractComes rfl _) hv he hs) (by omega)
  have hCA : ∀ e, e < 12 → ∀ {Wp : Nat → Int → Bool} {M : Mem}, CS kd0 sh0 rt0 bd0 Wp Inv0 M Ev (runM k') (xM kd0 sh0 rt0 bd0 un0 Wp PR0 MT0 (ctL [(203, ctNV e)]) 2) := fun e he => cs1 (b := 30) hang_0 (nv_ok hAc hBV he) (by omega)
  have hCB : ∀ {Wp : Nat → Int → Bool} {M : Mem}, CS kd0 sh0 rt0 bd0 Wp Inv0 M Ev (runM k') (xM kd0 sh0 rt0 bd0 un0 Wp PR0 MT0 (ctL clB) 4) := csL hang_0 (ctL_ok (b := 30) (l := clB) (And.intro hLK (And.intro hBE trivial))) (by omega)
  have h5 := fun f hf L M => cl5 (M0 := M0) hmC (hC9 2 (by omega)) (hC9 0 (by omega)) hCC f hf L M
  have h1 := cl1 (M0 := M0) hmC (hC9 0 (by omega)) hCA hCB h5
  refine seg1 (C := 100000) (F := 100000000) hu0 hang_0 (cs1 (b := 10) hang_0 sf_ok (D := 0) (by omega)) hmC chF0 (by omega) hQ hM.1 hM.2.1 (fun q q1 p' q2 f' q3 L' M' q4 q5 => ?_) (fun r _ _ _ q => by obtain ⟨p, hp, _⟩ := q; cases hp)
  obtain rfl := List.mem_singleton.mp q1
  obtain rfl := List.mem_singleton.mp q2
  have y1 := fact_at q4.2.1 (c := 452) (i := 13) (lo := 0) (hi := 12) (List.mem_cons_of_mem _ List.mem_cons_self)
  have yz := zK_at (fun a ha => q4.2.1 a (List.mem_cons_of_mem _ (List.mem_cons_of_mem _ ha)))
  have hcl := @cnt_le M' 96
  have hfu : fu 200000 20200000 204 ≤ 100000000 := Nat.le_of_ble_eq_true (by decide +kernel)
  refine h1 204 f' (Nat.le_trans hfu q3) L' M' q4.1 (fun v hv => ?_) y1.2 ?_ q5.1 q5.2.1 (fr_tr hM.2.2 q5.2.2 (ywsub_ok subS))
  · have := bdIs_ok (allN_ok bdSt v hv) q5.1 (by omega)
    rw [yz v hv]
    omega
  · unfold muF
    omega
end
