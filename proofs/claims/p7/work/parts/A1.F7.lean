/-! the reference does its commands, under the static numbers -/
theorem chZ6J : xseg kd0 sh0 rt0 bd0 un0 (inW wZ) PR1 MT0 (ctL [(258, ctKp 453)]) 0 mdZ [(7, [sZ7 0 []])] [] 10000000 6 (sZ [fM 16 0 0]) = true := by decide +kernel
noncomputable def chZ7J (j : Nat) : Bool := Bool.rec false (allL relL (fun q => xseg kd0 sh0 rt0 bd0 un0 (inW wZ) PR1 MT0 (ctL clZ) 8 mdZ [(7, [sZ7 (j + 1) []])] pZ 10000000 7 (sZ7 j (fM 25 ((j : Int) + 1) 30 :: relT j q)))) (xseg kd0 sh0 rt0 bd0 un0 (inW wZ) PR1 MT0 CT9 0 mdZ [] pZ 10000000 7 (sZ7 j [fM 25 0 j]))
theorem chZ7_allJ : allN 30 chZ7J = true := by decide +kernel
theorem chZ7_30J : xseg kd0 sh0 rt0 bd0 un0 (inW wZ) PR1 MT0 CT9 0 mdZ [] pZ 10000000 7 (sZ7 30 [fM 25 0 30]) = true := by decide +kernel
theorem wZ1_J : wfree ([], [], [], wZ1, []) = true := by decide +kernel
theorem jx_r {v u v' u' : Nat → Int} {M M' : Mem} (hF : Fr kd0 (inW wZ1) M M') (h : JC v u M ∧ JR v' u' M) : JC v u M' ∧ JR v' u' M' :=
  ⟨JC_fr (fun k hk i hj => hF k hk i (wfree_ok wZ1_J hj)) h.1, JR_fr (fun k hk i hj => hF k hk i (wfree_ok wZ1_J hj)) h.2⟩
def InvTJ (v u v' u' : Nat → Int) (c : Nat) (M : Mem) : Prop := InvT c M ∧ JC v u M ∧ JR v' u' M
theorem InvTJ_to {v u v' u' : Nat → Int} {c : Nat} {M : Mem} (hc : rdI M 452 25 ≤ (c : Int)) (h : InvTJ v u v' u' c M) : Inv1 v u v' u' M := ⟨InvT_to hc h.1, h.2⟩
theorem execR_okJ {v u v' u' : Nat → Int} {Ev : Env9} (hK : CKI (Inv1 v u v' u') Ev 110 (258, ctKp 453)) (h1 : CKI (Inv1 v u v' u') Ev 110 (214, ct_199)) (h2 : CKI (Inv1 v u v' u') Ev 110 (215, ct_223)) (h3 : CKI (Inv1 v u v' u') Ev 110 (208, ct_190)) (h4 : CKI (Inv1 v u v' u') Ev 110 (218, ct_204)) (h5 : CKI (Inv1 v u v' u') Ev 110 (193, ct_174)) (h6 : CKI (Inv1 v u v' u') Ev 110 (220, ct_228)) : CKI (Inv1 v u v' u') Ev 120 (259, ctZ) := by
  intro k hk
  obtain ⟨k', rfl⟩ : ∃ k', k = k' + 1 := ⟨k - 1, by omega⟩
  refine ctr_st hR9 (show MDOK bo9 259 mdZ from mo_X11_executeCommands rfl _) (Nat.le_of_ble_eq_true rfl) (fun d ct hmC M0 hI0 _ f hf L M hQ hM => ?_)
  have hs := ywsub_ok (Wp := inW wZ) subZ
  have hC9 : ∀ {Wp PR : Nat → Int → Bool} {Inv : Mem → Prop} {M : Mem} (D : Nat), Hang kd0 PR Inv → D ≤ 4 → CS kd0 sh0 rt0 bd0 Wp Inv M Ev (runM k') (xM kd0 sh0 rt0 bd0 un0 Wp PR MT0 CT9 D) := fun D hI hD => cs9 hI hR9 hMT9 (by omega)
  have hCZ : ∀ {M : Mem}, CS kd0 sh0 rt0 bd0 (inW wZ) (Inv1 v u v' u') M Ev (runM k') (xM kd0 sh0 rt0 bd0 un0 (inW wZ) PR1 MT0 (ctL clZ) 8) := csL hang_1 (ctI_ok (b := 110) (l := clZ) (And.intro h1 (And.intro h2 (And.intro h3 (And.intro h4 (And.intro h5 (And.intro h6 trivial))))))) (by omega)
  have hP : ∀ {M : Mem} {r : Res}, Fr kd0 (inW wZ) M0 M → r.2.1 = Ev → r.2.2.2.2.2.2.1 = 466 → GM kd0 sh0 rt0 bd0 (inW wZ) (Inv1 v u v' u') M r.2.2.2.2.2.1 → (∃ q ∈ pZ, pOK kd0 q r) → EnP kd0 sh0 rt0 bd0 (Inv1 v u v' u') Ev ctZ M0 r := fun hFr r1 r2 r3 q => ⟨r1, r2, r3.1, r3.2.1, fr_tr hFr r3.2.2 (fun _ _ h => h), q⟩
  -- the commands are done
  have stop : ∀ j, j ≤ 30 → xseg kd0 sh0 rt0 bd0 un0 (inW wZ) PR1 MT0 CT9 0 mdZ [] pZ 10000000 7 (sZ7 j [fM 25 0 j]) = true → ∀ f, 10000000 ≤ f → ∀ (L : List AV) (M : Mem), SpOK kd0 (sZ7 j []) L M → TI kd0 sh0 rt0 bd0 M → (Inv1 v u v' u') M → Fr kd0 (inW wZ) M0 M → rdI M 452 25 ≤ (j : Int) → OKo (runF (runM k') d ct f 7 Ev 466 0 L [] M) (EnP kd0 sh0 rt0 bd0 (Inv1 v u v' u') Ev ctZ M0) := by
    intro j hj hx f hf L M hQ hT hI hFr hc
    have hb := bdAt_ok bTold hT
    exact seg1 (C := 10000000) (F := 0) hu0 hang_1 (hC9 0 hang_1 (by omega)) hmC hx hf ⟨hQ.1, prFa_app (l := [fM 25 0 j]) (prFa_1 (c := 452) (i := 25) (by decide) hb.1 hc) hQ.2.1, fun q hq => by cases hq⟩ hT hI (fun q q1 => by cases q1) (fun r r1 r2 r3 q => hP hFr r1 r2 r3 q)
  have do7 : ∀ m j, j + m = 30 → ∀ f, fu 20000000 20000000 m ≤ f → ∀ (L : List AV) (M : Mem), SpOK kd0 (sZ7 j []) L M → TI kd0 sh0 rt0 bd0 M → (Inv1 v u v' u') M → Fr kd0 (inW wZ) M0 M → OKo (runF (runM k') d ct f 7 Ev 466 0 L [] M) (EnP kd0 sh0 rt0 bd0 (Inv1 v u v' u') Ev ctZ M0) := by
    intro m
    induction m with
    | zero =>
      intro j hj f hf L M hQ hT hI hFr
      rw [fu_0] at hf
      have e : j = 30 := by omega
      subst e
      exact stop 30 (Nat.le_refl _) chZ7_30J f (Nat.le_trans (nle rfl) hf) L M hQ hT hI hFr (bdAt_ok bTold hT).2
    | succ m ih =>
      intro j hj f hf L M hQ hT hI hFr
      have hj30 : j < 30 := by omega
      have hj31 : j + 1 + m = 30 := by omega
      rw [fu_s] at hf
      have hZ := fu_b 20000000 20000000 m
      generalize fu 20000000 20000000 m = Z at ih hf hZ
      obtain ⟨g1, g2⟩ := band (a := xseg kd0 sh0 rt0 bd0 un0 (inW wZ) PR1 MT0 CT9 0 mdZ [] pZ 10000000 7 (sZ7 j [fM 25 0 j])) (b := allL relL (fun q => xseg kd0 sh0 rt0 bd0 un0 (inW wZ) PR1 MT0 (ctL clZ) 8 mdZ [(7, [sZ7 (j + 1) []])] pZ 10000000 7 (sZ7 j (fM 25 ((j : Int) + 1) 30 :: relT j q)))) (allN_ok chZ7_allJ j hj30)
      by_cases hc : rdI M 452 25 ≤ (j : Int)
      · exact stop j (Nat.le_of_lt hj30) g1 f (fue3 hf (nle rfl)) L M hQ hT hI hFr hc
      · have hb := bdAt_ok bTold hT
        obtain ⟨q, hq, hqf⟩ := relT_of (hI.1.2.1.2.2 j hj30 (Int.not_le.mp hc))
        refine seg1 (C := 10000000) (F := Z) hu0 hang_1 hCZ hmC (allL_ok g2 q hq) (fue4 hf (nle rfl)) ⟨hQ.1, prFa_app (l := [fM 25 ((j : Int) + 1) 30]) (prFa_1 (c := 452) (i := 25) (by decide) (ile1 hc) hb.2) (prFa_app (l := relT j q) hqf hQ.2.1), fun q hq => by cases hq⟩ hT hI (fun w w1 p w2 f' w3 L' M' w4 w5 => ?_) (fun r r1 r2 r3 q => hP hFr r1 r2 r3 q)
        obtain rfl := List.mem_singleton.mp w1
        obtain rfl := List.mem_singleton.mp w2
        exact ih (j + 1) hj31 f' w3 L' M' w4 w5.1 w5.2.1 (fr_tr hFr w5.2.2 (fun _ _ h => h))
  have do6 : ∀ f, 700000000 ≤ f → ∀ (L : List AV) (M : Mem), SpOK kd0 (sZ [fM 16 0 0]) L M → TI kd0 sh0 rt0 bd0 M → (Inv1 v u v' u') M → Fr kd0 (inW wZ) M0 M → OKo (runF (runM k') d ct f 6 Ev 466 0 L [] M) (EnP kd0 sh0 rt0 bd0 (Inv1 v u v' u') Ev ctZ M0) := by
    intro f hf L M hQ hT hI hFr
    refine seg1 (posts := []) (C := 10000000) (F := 640000000) hu0 hang_1 (cs1 (b := 110) hang_1 hK (by omega)) hmC chZ6J (Nat.le_trans (nle rfl) hf) hQ hT hI (fun w w1 p w2 f' w3 L' M' w4 w5 => ?_) (fun r _ _ _ q => by obtain ⟨p, hp, _⟩ := q; cases hp)
    obtain rfl := List.mem_singleton.mp w1
    obtain rfl := List.mem_singleton.mp w2
    have hfu : fu 20000000 20000000 30 ≤ 640000000 := Nat.le_of_ble_eq_true (by decide +kernel)
    exact do7 30 0 (by omega) f' (Nat.le_trans hfu w3) L' M' w4 w5.1 w5.2.1 (fr_tr hFr w5.2.2 (fun _ _ h => h))
  -- an error
  have err : ∀ f, 10000000 ≤ f → ∀ (L : List AV) (M : Mem), SpOK kd0 (sZ [fM 20 1 4]) L M → TI kd0 sh0 rt0 bd0 M → (Inv1 v u v' u') M → Fr kd0 (inW wZ) M0 M → OKo (runF (runM k') d ct f 1 Ev 466 0 L [] M) (EnP kd0 sh0 rt0 bd0 (Inv1 v u v' u') Ev ctZ M0) := by
    intro f hf L M hQ hT hI hFr
    exact seg1 (C := 10000000) (F := 0) hu0 hang_0 (hC9 4 hang_0 (by omega)) hmC chZe hf hQ hT hI.1 (fun q q1 => by cases q1) (fun r r1 r2 r3 q => ⟨r1, r2, r3.1, ⟨r3.2.1, jx_r r3.2.2 hI.2⟩, fr_tr hFr r3.2.2 hs, q⟩)
  -- the commands are read
  have read : ∀ m c, c + m = 30 → ∀ f, fu 20000000 720000000 m ≤ f → ∀ (L : List AV) (M : Mem), SpOK kd0 (sZ1 c) L M → TI kd0 sh0 rt0 bd0 M → InvTJ v u v' u' c M → Fr kd0 (inW wZ) M0 M → OKo (runF (runM k') d ct f 1 Ev 466 0 L [] M) (EnP kd0 sh0 rt0 bd0 (Inv1 v u v' u') Ev ctZ M0) := by
    have gen : ∀ c, c ≤ 30 → ∀ F, 700000000 ≤ F → (c < 30 → ∀ f, F ≤ f → ∀ (L : List AV) (M : Mem), SpOK kd0 (sZ1 (c + 1)) L M → TI kd0 sh0 rt0 bd0 M → InvTJ v u v' u' (c + 1) M → Fr kd0 (inW wZ) M0 M → OKo (runF (runM k') d ct f 1 Ev 466 0 L [] M) (EnP kd0 sh0 rt0 bd0 (Inv1 v u v' u') Ev ctZ M0)) → ∀ f, F + 20000000 ≤ f → ∀ (L : List AV) (M : Mem), SpOK kd0 (sZ1 c) L M → TI kd0 sh0 rt0 bd0 M → InvTJ v u v' u' c M → Fr kd0 (inW wZ) M0 M → OKo (runF (runM k') d ct f 1 Ev 466 0 L [] M) (EnP kd0 sh0 rt0 bd0 (Inv1 v u v' u') Ev ctZ M0) := by
      intro c hc F hF ih f hf L M hQ hT hI hFr
      have hc31 : c < 31 := by omega
      refine seg1 (posts := []) (C := 10000000) (F := F) hu0 (hang_TT (allN_ok hgT_a c hc31)) (csL (b := 18) (l := tl_reads) (hang_TT (allN_ok hgT_a c hc31)) (tl_reads_ok (hang_TT (allN_ok hgT_0 c hc31))) (by omega)) hmC (chZ1_all c hc31) (fue4 hf (nle rfl)) hQ hT hI.1 (fun w w1 p w2 f' w3 L' M' w4 w5 => ?_) (fun r _ _ _ q => by obtain ⟨p, hp, _⟩ := q; cases hp)
      have hFr' := fr_tr hFr w5.2.2 hs
      have hJ' := jx_r w5.2.2 hI.2
      rcases List.mem_cons.mp w1 with z | w1
      · subst z
        rcases List.mem_cons.mp w2 with z | w2
        · subst z
          have g := fact_at w4.2.1 (c := 452) (i := 25) (lo := (c : Int)) (hi := (c : Int)) List.mem_cons_self
          exact err f' (Nat.le_trans (Nat.le_trans (nle rfl) hF) w3) L' M' ⟨w4.1, fun a ha => w4.2.1 a (List.mem_cons_of_mem _ ha), w4.2.2⟩ w5.1 (InvTJ_to g.2 ⟨w5.2.1, hJ'⟩) hFr'
        · obtain ⟨hb, w2⟩ := yif_mem w2
          have hb := blt_of hb
          rcases List.mem_append.mp w2 with w2 | w2
          · obtain ⟨q, hq, he⟩ := List.mem_map.mp w2
            subst he
            have hI' : InvTJ v u v' u' (c + 1) M' := ⟨⟨w5.2.1.1, relT_s (fun i a b => w5.2.1.2 i a b) (relT_ok hq (fun a ha => w4.2.1 a (List.mem_append_left _ (List.mem_cons_of_mem _ (List.mem_cons_of_mem _ (List.mem_cons_of_mem _ ha))))))⟩, hJ'⟩
            refine ih hb f' w3 L' M' ⟨w4.1, fun a ha => ?_, fun q hq => by cases hq⟩ w5.1 hI' hFr'
            rcases List.mem_append.mp ha with ha | ha
            · rcases List.mem_cons.mp ha with e | ha
              · rw [e]; exact w4.2.1 _ List.mem_cons_self
              rcases List.mem_cons.mp ha with e | ha
              · rw [e]; exact w4.2.1 _ (List.mem_cons_of_mem _ List.mem_cons_self)
              · rw [List.mem_singleton.mp ha]; exact w4.2.1 _ (List.mem_cons_of_mem _ (List.mem_cons_of_mem _ List.mem_cons_self))
            · exact w4.2.1 a (List.mem_append_right _ ha)
          · obtain ⟨q, hq, he⟩ := List.mem_map.mp w2
            subst he
            have hI' : InvTJ v u v' u' (c + 1) M' := ⟨⟨w5.2.1.1, relT_s (fun i a b => w5.2.1.2 i a b) (relT_ok hq (fun a ha => w4.2.1 a (List.mem_append_left _ (List.mem_cons_of_mem _ (List.mem_cons_of_mem _ ha)))))⟩, hJ'⟩
            have g := fact_at w4.2.1 (c := 452) (i := 25) (lo := (c : Int) + 1) (hi := (c : Int) + 1) List.mem_cons_self
            refine err f' (Nat.le_trans (Nat.le_trans (nle rfl) hF) w3) L' M' ⟨w4.1, fun a ha => ?_, fun q hq => by cases hq⟩ w5.1 (InvTJ_to (c := c + 1) g.2 hI') hFr'
            rcases List.mem_append.mp ha with ha | ha
            · rw [List.mem_singleton.mp ha]; exact w4.2.1 _ (List.mem_cons_of_mem _ List.mem_cons_self)
            · exact w4.2.1 a (List.mem_append_right _ ha)
      · obtain rfl := List.mem_singleton.mp w1
        obtain rfl := List.mem_singleton.mp w2
        have g := fact_at w4.2.1 (c := 452) (i := 25) (lo := (c : Int)) (hi := (c : Int)) List.mem_cons_self
        exact do6 f' (Nat.le_trans hF w3) L' M' ⟨w4.1, fun a ha => w4.2.1 a (List.mem_cons_of_mem _ ha), w4.2.2⟩ w5.1 (InvTJ_to g.2 ⟨w5.2.1, hJ'⟩) hFr'
    intro m
    induction m with
    | zero =>
      intro c hc f hf
      exact gen c (by omega) 700000000 (Nat.le_refl _) (fun h => by omega) f hf
    | succ m ih =>
      intro c hc f hf
      have hZ := fu_b 20000000 720000000 m
      rw [fu_s] at hf
      exact gen c (by omega) (fu 20000000 720000000 m) (Nat.le_trans (by decide) hZ) (fun h => ih (c + 1) (by omega)) f hf
  have hI0' : InvT 0 M := ⟨⟨hM.2.1.1.1, hM.2.1.1.2.1.1, hM.2.1.1.2.1.2.1, hM.2.1.1.2.2⟩, fun i h1 _ => by omega⟩
  refine seg1 (posts := []) (C := 10000000) (F := 2000000000) hu0 (hang_TT (allN_ok hgT_a 0 (by omega))) (hC9 4 (hang_TT (allN_ok hgT_a 0 (by omega))) (by omega)) hmC chZ0 (Nat.le_trans (nle rfl) hf) hQ hM.1 hI0' (fun w w1 p w2 f' w3 L' M' w4 w5 => ?_) (fun r _ _ _ q => by obtain ⟨p, hp, _⟩ := q; cases hp)
  obtain rfl := List.mem_singleton.mp w1
  obtain rfl := List.mem_singleton.mp w2
  have hfu : fu 20000000 720000000 30 ≤ 2000000000 := Nat.le_of_ble_eq_true (by decide +kernel)
  exact read 30 0 (by omega) f' (Nat.le_trans hfu w3) L' M' w4 w5.1 ⟨w5.2.1, jx_r w5.2.2 hM.2.1.2⟩ (fr_tr hM.2.2 w5.2.2 hs)
theorem kpJ_453 {Ev : Env9} {v u v' u' : Nat → Int} : CKI (Inv1 v u v' u') Ev 60 (258, ctKp 453) := kp_view (c := 453) (v := v) (u := u) (v' := v') (u' := u') (Or.inl rfl) (fun k hk => keeps_ok (Or.inl rfl) kp_453 k (by omega)) rfl np_453 (fun M h => ⟨h, h.2.2.1⟩) (fun M a _ => a)
theorem wz_199 : wfree ct_199 = true := by decide +kernel
theorem wz_223 : wfree ct_223 = true := by decide +kernel
theorem wz_190 : wfree ct_190 = true := by decide +kernel
theorem wz_204 : wfree ct_204 = true := by decide +kernel
theorem wz_174 : wfree ct_174 = true := by decide +kernel
theorem wz_228 : wfree ct_228 = true := by decide +kernel
theorem g1_Z {Ev : Env9} {v u v' u' : Nat → Int} : CKI (Inv1 v u v' u') Ev 120 (259, ctZ) := execR_okJ (CKI_up kpJ_453 (by decide)) (CKI_up (show CKI (Inv1 v u v' u') Ev _ (214, ct_199) from fun k hk => lift1 (f_199 k hk) wz_199) (by decide)) (CKI_up (show CKI (Inv1 v u v' u') Ev _ (215, ct_223) from fun k hk => lift1 (cc_223 k hk) wz_223) (by decide)) (CKI_up (show CKI (Inv1 v u v' u') Ev _ (208, ct_190) from fun k hk => lift1 (f_190 k hk) wz_190) (by decide)) (CKI_up (show CKI (Inv1 v u v' u') Ev _ (218, ct_204) from fun k hk => lift1 (cc_204 k hk) wz_204) (by decide)) (CKI_up (show CKI (Inv1 v u v' u') Ev _ (193, ct_174) from fun k hk => lift1 (cc_174 k hk) wz_174) (by decide)) (CKI_up (show CKI (Inv1 v u v' u') Ev _ (220, ct_228) from fun k hk => lift1 (hh_228 k hk) wz_228) (by decide))
