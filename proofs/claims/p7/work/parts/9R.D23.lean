section
/-! the reference does its commands: the whole -/
theorem chZ1_all : ∀ c, c < 31 → chZ1 c = true := fun c hc => match c, hc with | 0, _ => chZ1_0 | 1, _ => chZ1_1 | 2, _ => chZ1_2 | 3, _ => chZ1_3 | 4, _ => chZ1_4 | 5, _ => chZ1_5 | 6, _ => chZ1_6 | 7, _ => chZ1_7 | 8, _ => chZ1_8 | 9, _ => chZ1_9 | 10, _ => chZ1_10 | 11, _ => chZ1_11 | 12, _ => chZ1_12 | 13, _ => chZ1_13 | 14, _ => chZ1_14 | 15, _ => chZ1_15 | 16, _ => chZ1_16 | 17, _ => chZ1_17 | 18, _ => chZ1_18 | 19, _ => chZ1_19 | 20, _ => chZ1_20 | 21, _ => chZ1_21 | 22, _ => chZ1_22 | 23, _ => chZ1_23 | 24, _ => chZ1_24 | 25, _ => chZ1_25 | 26, _ => chZ1_26 | 27, _ => chZ1_27 | 28, _ => chZ1_28 | 29, _ => chZ1_29 | 30, _ => chZ1_30 | n + 31, h => absurd h (by omega)
theorem bTold : bdAt 452 25 0 30 = true := by decide +kernel
theorem subZ : ywsub (inW wZ) wZ1 = true := by decide +kernel
theorem relT_s {c : Nat} {M : Mem} (h : ∀ i : Nat, i < c → i < 30 → Rel9 (rdI M 463 (3 * i)) (rdI M 463 (3 * i + 1)) (rdI M 463 (3 * i + 2))) (hc : Rel9 (rdI M 463 (3 * c)) (rdI M 463 (3 * c + 1)) (rdI M 463 (3 * c + 2))) : ∀ i : Nat, i < c + 1 → i < 30 → Rel9 (rdI M 463 (3 * i)) (rdI M 463 (3 * i + 1)) (rdI M 463 (3 * i + 2)) := by
  intro i h1 h2
  by_cases e : i = c
  · rw [e]; exact hc
  · exact h i (by omega) h2
theorem execR_ok {Ev : Env9} (hK : CK Ev 110 (258, ctKp 453)) (h1 : CK Ev 110 (214, ct_199)) (h2 : CK Ev 110 (215, ct_223)) (h3 : CK Ev 110 (208, ct_190)) (h4 : CK Ev 110 (218, ct_204)) (h5 : CK Ev 110 (193, ct_174)) (h6 : CK Ev 110 (220, ct_228)) : CK Ev 120 (259, ctZ) := by
  intro k hk
  obtain ⟨k', rfl⟩ : ∃ k', k = k' + 1 := ⟨k - 1, by omega⟩
  refine ctr_st hR9 (show MDOK bo9 259 mdZ from mo_X11_executeCommands rfl _) (Nat.le_of_ble_eq_true rfl) (fun d ct hmC M0 hI0 _ f hf L M hQ hM => ?_)
  have hs := ywsub_ok (Wp := inW wZ) subZ
  have hC9 : ∀ {Wp PR : Nat → Int → Bool} {Inv : Mem → Prop} {M : Mem} (D : Nat), Hang kd0 PR Inv → D ≤ 4 → CS kd0 sh0 rt0 bd0 Wp Inv M Ev (runM k') (xM kd0 sh0 rt0 bd0 un0 Wp PR MT0 CT9 D) := fun D hI hD => cs9 hI hR9 hMT9 (by omega)
  have hCZ : ∀ {M : Mem}, CS kd0 sh0 rt0 bd0 (inW wZ) Inv0 M Ev (runM k') (xM kd0 sh0 rt0 bd0 un0 (inW wZ) PR0 MT0 (ctL clZ) 8) := csL hang_0 (ctL_ok (b := 110) (l := clZ) (And.intro h1 (And.intro h2 (And.intro h3 (And.intro h4 (And.intro h5 (And.intro h6 trivial))))))) (by omega)
  have hP : ∀ {M : Mem} {r : Res}, Fr kd0 (inW wZ) M0 M → r.2.1 = Ev → r.2.2.2.2.2.2.1 = 466 → GM kd0 sh0 rt0 bd0 (inW wZ) Inv0 M r.2.2.2.2.2.1 → (∃ q ∈ pZ, pOK kd0 q r) → EnP kd0 sh0 rt0 bd0 Inv0 Ev ctZ M0 r := fun hFr r1 r2 r3 q => ⟨r1, r2, r3.1, r3.2.1, fr_tr hFr r3.2.2 (fun _ _ h => h), q⟩
  -- the commands are done
  have stop : ∀ j, j ≤ 30 → xseg kd0 sh0 rt0 bd0 un0 (inW wZ) PR0 MT0 CT9 0 mdZ [] pZ 10000000 7 (sZ7 j [fM 25 0 j]) = true → ∀ f, 10000000 ≤ f → ∀ (L : List AV) (M : Mem), SpOK kd0 (sZ7 j []) L M → TI kd0 sh0 rt0 bd0 M → Inv0 M → Fr kd0 (inW wZ) M0 M → rdI M 452 25 ≤ (j : Int) → OKo (runF (runM k') d ct f 7 Ev 466 0 L [] M) (EnP kd0 sh0 rt0 bd0 Inv0 Ev ctZ M0) := by
    intro j hj hx f hf L M hQ hT hI hFr hc
    have hb := bdAt_ok bTold hT
    exact seg1 (C := 10000000) (F := 0) hu0 hang_0 (hC9 0 hang_0 (by omega)) hmC hx hf ⟨hQ.1, prFa_app (l := [fM 25 0 j]) (prFa_1 (c := 452) (i := 25) (by decide) hb.1 hc) hQ.2.1, fun q hq => by cases hq⟩ hT hI (fun q q1 => by cases q1) (fun r r1 r2 r3 q => hP hFr r1 r2 r3 q)
  have do7 : ∀ m j, j + m = 30 → ∀ f, fu 20000000 20000000 m ≤ f → ∀ (L : List AV) (M : Mem), SpOK kd0 (sZ7 j []) L M → TI kd0 sh0 rt0 bd0 M → Inv0 M → Fr kd0 (inW wZ) M0 M → OKo (runF (runM k') d ct f 7 Ev 466 0 L [] M) (EnP kd0 sh0 rt0 bd0 Inv0 Ev ctZ M0) := by
    intro m
    induction m with
    | zero =>
      intro j hj f hf L M hQ hT hI hFr
      rw [fu_0] at hf
      have e : j = 30 := by omega
      subst e
      exact stop 30 (Nat.le_refl _) chZ7_30 f (Nat.le_trans (nle rfl) hf) L M hQ hT hI hFr (bdAt_ok bTold hT).2
    | succ m ih =>
      intro j hj f hf L M hQ hT hI hFr
      have hj30 : j < 30 := by omega
      have hj31 : j + 1 + m = 30 := by omega
      rw [fu_s] at hf
      have hZ := fu_b 20000000 20000000 m
      generalize fu 20000000 20000000 m = Z at ih hf hZ
      obtain ⟨g1, g2⟩ := band (a := xseg kd0 sh0 rt0 bd0 un0 (inW wZ) PR0 MT0 CT9 0 mdZ [] pZ 10000000 7 (sZ7 j [fM 25 0 j])) (b := allL relL (fun q => xseg kd0 sh0 rt0 bd0 un0 (inW wZ) PR0 MT0 (ctL clZ) 8 mdZ [(7, [sZ7 (j + 1) []])] pZ 10000000 7 (sZ7 j (fM 25 ((j : Int) + 1) 30 :: relT j q)))) (allN_ok chZ7_all j hj30)
      by_cases hc : rdI M 452 25 ≤ (j : Int)
      · exact stop j (Nat.le_of_lt hj30) g1 f (fue3 hf (nle rfl)) L M hQ hT hI hFr hc
      · have hb := bdAt_ok bTold hT
        obtain ⟨q, hq, hqf⟩ := relT_of (hI.2.1.2.2 j hj30 (Int.not_le.mp hc))
        refine seg1 (C := 10000000) (F := Z) hu0 hang_0 hCZ hmC (allL_ok g2 q hq) (fue4 hf (nle rfl)) ⟨hQ.1, prFa_app (l := [fM 25 ((j : Int) + 1) 30]) (prFa_1 (c := 452) (i := 25) (by decide) (ile1 hc) hb.2) (prFa_app (l := relT j q) hqf hQ.2.1), fun q hq => by cases hq⟩ hT hI (fun w w1 p w2 f' w3 L' M' w4 w5 => ?_) (fun r r1 r2 r3 q => hP hFr r1 r2 r3 q)
        obtain rfl := List.mem_singleton.mp w1
        obtain rfl := List.mem_singleton.mp w2
        exact ih (j + 1) hj31 f' w3 L' M' w4 w5.1 w5.2.1 (fr_tr hFr w5.2.2 (fun _ _ h => h))
  have do6 : ∀ f, 700000000 ≤ f → ∀ (L : List AV) (M : Mem), SpOK kd0 (sZ [fM 16 0 0]) L M → TI kd0 sh0 rt0 bd0 M → Inv0 M → Fr kd0 (inW wZ) M0 M → OKo (runF (runM k') d ct f 6 Ev 466 0 L [] M) (EnP kd0 sh0 rt0 bd0 Inv0 Ev ctZ M0) := by
    intro f hf L M hQ hT hI hFr
    refine seg1 (posts := []) (C := 10000000) (F := 640000000) hu0 hang_0 (cs1 (b := 110) hang_0 hK (by omega)) hmC chZ6 (Nat.le_trans (nle rfl) hf) hQ hT hI (fun w w1 p w2 f' w3 L' M' w4 w5 => ?_) (fun r _ _ _ q => by obtain ⟨p, hp, _⟩ := q; cases hp)
    obtain rfl := List.mem_singleton.mp w1
    obtain rfl := List.mem_singleton.mp w2
    have hfu : fu 20000000 20000000 30 ≤ 640000000 := Nat.le_of_ble_eq_true (by decide +kernel)
    exact do7 30 0 (by omega) f' (Nat.le_trans hfu w3) L' M' w4 w5.1 w5.2.1 (fr_tr hFr w5.2.2 (fun _ _ h => h))
  -- an error
  have err : ∀ f, 10000000 ≤ f → ∀ (L : List AV) (M : Mem), SpOK kd0 (sZ [fM 20 1 4]) L M → TI kd0 sh0 rt0 bd0 M → Inv0 M → Fr kd0 (inW wZ) M0 M → OKo (runF (runM k') d ct f 1 Ev 466 0 L [] M) (EnP kd0 sh0 rt0 bd0 Inv0 Ev ctZ M0) := by
    intro f hf L M hQ hT hI hFr
    exact seg1 (C := 10000000) (F := 0) hu0 hang_0 (hC9 4 hang_0 (by omega)) hmC chZe hf hQ hT hI (fun q q1 => by cases q1) (fun r r1 r2 r3 q => ⟨r1, r2, r3.1, r3.2.1, fr_tr hFr r3.2.2 hs, q⟩)
  -- the commands are read
  have read : ∀ m c, c + m = 30 → ∀ f, fu 20000000 720000000 m ≤ f → ∀ (L : List AV) (M : Mem), SpOK kd0 (sZ1 c) L M → TI kd0 sh0 rt0 bd0 M → InvT c M → Fr kd0 (inW wZ) M0 M → OKo (runF (runM k') d ct f 1 Ev 466 0 L [] M) (EnP kd0 sh0 rt0 bd0 Inv0 Ev ctZ M0) := by
    have gen : ∀ c, c ≤ 30 → ∀ F, 700000000 ≤ F → (c < 30 → ∀ f, F ≤ f → ∀ (L : List AV) (M : Mem), SpOK kd0 (sZ1 (c + 1)) L M → TI kd0 sh0 rt0 bd0 M → InvT (c + 1) M → Fr kd0 (inW wZ) M0 M → OKo (runF (runM k') d ct f 1 Ev 466 0 L [] M) (EnP kd0 sh0 rt0 bd0 Inv0 Ev ctZ M0)) → ∀ f, F + 20000000 ≤ f → ∀ (L : List AV) (M : Mem), SpOK kd0 (sZ1 c) L M → TI kd0 sh0 rt0 bd0 M → InvT c M → Fr kd0 (inW wZ) M0 M → OKo (runF (runM k') d ct f 1 Ev 466 0 L [] M) (EnP kd0 sh0 rt0 bd0 Inv0 Ev ctZ M0) := by
      intro c hc F hF ih f hf L M hQ hT hI hFr
      have hc31 : c < 31 := by omega
      refine seg1 (posts := []) (C := 10000000) (F := F) hu0 (hang_TT (allN_ok hgT_a c hc31)) (csL (b := 18) (l := tl_reads) (hang_TT (allN_ok hgT_a c hc31)) (tl_reads_ok (hang_TT (allN_ok hgT_0 c hc31))) (by omega)) hmC (chZ1_all c hc31) (fue4 hf (nle rfl)) hQ hT hI (fun w w1 p w2 f' w3 L' M' w4 w5 => ?_) (fun r _ _ _ q => by obtain ⟨p, hp, _⟩ := q; cases hp)
      have hFr' := fr_tr hFr w5.2.2 hs
      rcases List.mem_cons.mp w1 with z | w1
      · subst z
        rcases List.mem_cons.mp w2 with z | w2
        · subst z
          have g := fact_at w4.2.1 (c := 452) (i := 25) (lo := (c : Int)) (hi := (c : Int)) List.mem_cons_self
          exact err f' (Nat.le_trans (Nat.le_trans (nle rfl) hF) w3) L' M' ⟨w4.1, fun a ha => w4.2.1 a (List.mem_cons_of_mem _ ha), w4.2.2⟩ w5.1 (InvT_to g.2 w5.2.1) hFr'
        · obtain ⟨hb, w2⟩ := yif_mem w2
          have hb := blt_of hb
          rcases List.mem_append.mp w2 with w2 | w2
          · obtain ⟨q, hq, he⟩ := List.mem_map.mp w2
            subst he
            have hI' : InvT (c + 1) M' := ⟨w5.2.1.1, relT_s (fun i a b => w5.2.1.2 i a b) (relT_ok hq (fun a ha => w4.2.1 a (List.mem_append_left _ (List.mem_cons_of_mem _ (List.mem_cons_of_mem _ (List.mem_cons_of_mem _ ha))))))⟩
            refine ih hb f' w3 L' M' ⟨w4.1, fun a ha => ?_, fun q hq => by cases hq⟩ w5.1 hI' hFr'
            rcases List.mem_append.mp ha with ha | ha
            · rcases List.mem_cons.mp ha with e | ha
              · rw [e]; exact w4.2.1 _ List.mem_cons_self
              rcases List.mem_cons.mp ha with e | ha
              · rw [e]; exact w4.2.1 _ (List.mem_cons_of_mem _ List.mem_cons_self)
              · rw [List.mem_singleton.mp ha]; exact w4.2.1 _ (List.mem_cons_of_mem _ (List.mem_cons_of_mem _ List.mem_cons_self))
            · exact w4.2.1 a (List.mem_append_right _ ha)
          · obtain ⟨q, hq, he⟩ := List.mem_map.mp w2
            subst he
            have hI' : InvT (c + 1) M' := ⟨w5.2.1.1, relT_s (fun i a b => w5.2.1.2 i a b) (relT_ok hq (fun a ha => w4.2.1 a (List.mem_append_left _ (List.mem_cons_of_mem _ (List.mem_cons_of_mem _ ha)))))⟩
            have g := fact_at w4.2.1 (c := 452) (i := 25) (lo := (c : Int) + 1) (hi := (c : Int) + 1) List.mem_cons_self
            refine err f' (Nat.le_trans (Nat.le_trans (nle rfl) hF) w3) L' M' ⟨w4.1, fun a ha => ?_, fun q hq => by cases hq⟩ w5.1 (InvT_to (c := c + 1) g.2 hI') hFr'
            rcases List.mem_append.mp ha with ha | ha
            · rw [List.mem_singleton.mp ha]; exact w4.2.1 _ (List.mem_cons_of_mem _ List.mem_cons_self)
            · exact w4.2.1 a (List.mem_append_right _ ha)
      · obtain rfl := List.mem_singleton.mp w1
        obtain rfl := List.mem_singleton.mp w2
        have g := fact_at w4.2.1 (c := 452) (i := 25) (lo := (c : Int)) (hi := (c : Int)) List.mem_cons_self
        exact do6 f' (Nat.le_trans hF w3) L' M' ⟨w4.1, fun a ha => w4.2.1 a (List.mem_cons_of_mem _ ha), w4.2.2⟩ w5.1 (InvT_to g.2 w5.2.1) hFr'
    intro m
    induction m with
    | zero =>
      intro c hc f hf
      exact gen c (by omega) 700000000 (Nat.le_refl _) (fun h => by omega) f hf
    | succ m ih =>
      intro c hc f hf
      have hZ := fu_b 20000000 720000000 m
      rw [fu_s] at hf
      exact gen c (by omega) (fu 20000000 720000000 m) (Nat.le_trans (by decide) hZ) (fun h => ih (c + 1) (by omega)) f hf
  have hI0' : InvT 0 M := ⟨⟨hM.2.1.1, hM.2.1.2.1.1, hM.2.1.2.1.2.1, hM.2.1.2.2⟩, fun i h1 _ => by omega⟩
  refine seg1 (posts := []) (C := 10000000) (F := 2000000000) hu0 (hang_TT (allN_ok hgT_a 0 (by omega))) (hC9 4 (hang_TT (allN_ok hgT_a 0 (by omega))) (by omega)) hmC chZ0 (Nat.le_trans (nle rfl) hf) hQ hM.1 hI0' (fun w w1 p w2 f' w3 L' M' w4 w5 => ?_) (fun r _ _ _ q => by obtain ⟨p, hp, _⟩ := q; cases hp)
  obtain rfl := List.mem_singleton.mp w1
  obtain rfl := List.mem_singleton.mp w2
  have hfu : fu 20000000 720000000 30 ≤ 2000000000 := Nat.le_of_ble_eq_true (by decide +kernel)
  exact read 30 0 (by omega) f' (Nat.le_trans hfu w3) L' M' w4 w5.1 w5.2.1 (fr_tr hM.2.2 w5.2.2 hs)
end
section
/-! the reference's parser goes forward -/
def InvA (a : Int) (M : Mem) : Prop := Inv0 M ∧ a ≤ rdI M 452 17
noncomputable def PRA (κ : Nat) (v : Int) : Bool := Bool.rec (PR0 κ v) (Bool.rec (PR0 κ v) true (ieq v 17)) (Nat.beq κ 13)
theorem prA {κ : Nat} {v : Int} (h : PR0 κ v = true) : PRA κ v = true := by
  unfold PRA
  cases Nat.beq κ 13 with
  | false => exact h
  | true =>
    cases hv : ieq v 17 with
    | false => exact h
    | true => rfl
theorem prA17 : PRA (kd0 452) ((17 : Nat) : Int) = true := by decide +kernel
theorem hang_A {a : Int} : Hang kd0 PRA (InvA a) := fun M M' h hf => ⟨hang_0 M M' h.1 (fun k hk i hi => hf k hk i (prA hi)), by rw [hf 452 (by omega) 17 prA17]; exact h.2⟩
theorem hang_0T : Hang kd0 PR0 Inv0 := hang_0
noncomputable def sBA (lo hi : Int) : Sct := ((.inl 452, (0, 0, 18)), (.inl 452, (0, 0, 17)), -1, lo, hi)
noncomputable def sBW : Sct := ((.inl 452, (0, 0, 18)), (.inl 452, (0, 0, 19)), 1, 0, 900)
/-- next: what it says, and that begin is at -/
noncomputable def pNx : List Pst := [((0, 0), (0, 0, 255), [fM 17 0 899, fM 18 0 899, fM 19 0 900], [sBW, sBA 0 0]), ((0, 0), (0, -1, -1), [fM 17 0 900, fM 18 0 900, fM 19 0 900], [sBW, sBA 0 0])]
noncomputable def ctNx : Ctr := ([(1, 452, 0)], [fM 17 0 900], [], [(13, 17, 19)], pNx)
noncomputable def mdNx : MDT := (1, nb_X11_next, [(3, ([], [(((.inl 452, (0, 0, 19)) : RK × Aff), 0, 900)], [(13, 19, 19)], [(((.inl 452, (0, 0, 18)) : RK × Aff), ((.inl 452, (0, 0, 19)) : RK × Aff), 1, 0, 900)], true, true, []))])
noncomputable def stNx : SPt := ([some (1, 452, 0)], [fM 17 0 900], [])
noncomputable def rNx : List Rl9 := [((452, 17), (452, 17), 1)]
noncomputable def r17 : List Rl9 := [((452, 17), (452, 17), 0)]
theorem chNxa : xsegR kd0 sh0 rt0 bd0 un0 (inW [(13, 17, 17)]) PR0 MT0 CT9 4 mdNx [(0, [(stNx, rNx)]), (2, [(stNx, r17)])] [] 1000000 0 stNx = true := by decide +kernel
theorem chNxb : xseg kd0 sh0 rt0 bd0 un0 (inW [(13, 18, 19)]) PRA MT0 CT9 4 mdNx [] pNx 1000000 2 stNx = true := by decide +kernel
theorem nxA {a x y : Int} (h : a ≤ x) (e : y = x + 1) : a ≤ y := by omega
theorem nxB {n : Nat} {x y : Int} (h : 901 - x ≤ ((n + 1 : Nat) : Int)) (e : y = x + 1) : 901 - y ≤ (n : Int) := by omega
theorem nxC {a x y : Int} (h : a ≤ x) (e : y = x + 0) : a ≤ y := by omega
theorem next_A {Ev : Env9} {a : Int} : ∀ k, 8 ≤ k → CtrOK kd0 sh0 rt0 bd0 (InvA a) Ev (runM k) 229 ctNx := by
  intro k hk
  obtain ⟨k', rfl⟩ : ∃ k', k = k' + 1 := ⟨k - 1, by omega⟩
  refine ctr_st hR9 (md := mdNx) (show MDOK bo9 229 mdNx from mo_X11_next rfl _) (Nat.le_of_ble_eq_true rfl) (fun d ct hmC M0 hI0 _ f hf L M hQ hM => ?_)
  have hk4 : 4 ≤ k' := by omega
  have w1 : ∀ κ v, inW [(13, 17, 17)] κ v = true → inW [(13, 17, 19)] κ v = true := ywsub_ok (Wp := inW [(13, 17, 19)]) (by decide +kernel)
  have w2 : ∀ κ v, inW [(13, 18, 19)] κ v = true → inW [(13, 17, 19)] κ v = true := ywsub_ok (Wp := inW [(13, 17, 19)]) (by decide +kernel)
  have from2 : ∀ f, 1000000 ≤ f → ∀ (L : List AV) (M : Mem), SpOK kd0 stNx L M → TI kd0 sh0 rt0 bd0 M → InvA a M → Fr kd0 (inW [(13, 17, 19)]) M0 M → OKo (runF (runM k') d ct f 2 Ev 466 0 L [] M) (EnP kd0 sh0 rt0 bd0 (InvA a) Ev ctNx M0) := by
    intro f hf L M hQ hT hI hFr
    exact seg1 (C := 1000000) (F := 0) hu0 hang_A (cs9 hang_A hR9 hMT9 hk4) hmC chNxb hf hQ hT hI (fun q q1 => by cases q1) (fun r r1 r2 r3 q => ⟨r1, r2, r3.1, r3.2.1, fr_tr hFr r3.2.2 w2, q⟩)
  have key : ∀ (n : Nat) f, fu 1000000 2000000 n ≤ f → ∀ (L : List AV) (M : Mem), SpOK kd0 stNx L M → TI kd0 sh0 rt0 bd0 M → InvA a M → Fr kd0 (inW [(13, 17, 19)]) M0 M → 901 - rdI M 452 17 ≤ (n : Int) → OKo (runF (runM k') d ct f 0 Ev 466 0 L [] M) (EnP kd0 sh0 rt0 bd0 (InvA a) Ev ctNx M0) := by
    intro n
    induction n with
    | zero =>
      intro f hf L M hQ hT hI hFr hn
      have := fact_at hQ.2.1 (c := 452) (i := 17) (lo := 0) (hi := 900) List.mem_cons_self
      omega
    | succ n ih =>
      intro f hf L M hQ hT hI hFr hn
      rw [fu_s] at hf
      have hZ := fu_b 1000000 2000000 n
      generalize fu 1000000 2000000 n = Z at ih hf hZ
      refine segR (posts := []) (C := 1000000) (F := Z) hu0 hang_0 (cs9 hang_0 hR9 hMT9 hk4) hmC chNxa (fue4 hf (nle rfl)) hQ hT hI.1 (fun q q1 p' q2 f' q3 L' M' q4 qr q5 => ?_) (fun r _ _ _ q => by obtain ⟨p, hp, _⟩ := q; cases hp)
      rcases List.mem_cons.mp q1 with z | z
      · subst z
        obtain rfl := List.mem_singleton.mp q2
        have hr : rdI M' 452 17 = rdI M 452 17 + 1 := qr _ (List.mem_singleton.mpr rfl)
        exact ih f' q3 L' M' q4 q5.1 ⟨q5.2.1, nxA hI.2 hr⟩ (fr_tr hFr q5.2.2 w1) (nxB hn hr)
      · obtain rfl := List.mem_singleton.mp z
        obtain rfl := List.mem_singleton.mp q2
        have hr : rdI M' 452 17 = rdI M 452 17 + 0 := qr _ (List.mem_singleton.mpr rfl)
        exact from2 f' (Nat.le_trans (Nat.le_trans (nle rfl) hZ) q3) L' M' q4 q5.1 ⟨q5.2.1, nxC hI.2 hr⟩ (fr_tr hFr q5.2.2 w1)
  have hb := fact_at hQ.2.1 (c := 452) (i := 17) (lo := 0) (hi := 900) List.mem_cons_self
  have hfu : fu 1000000 2000000 901 ≤ 1000000000000 := Nat.le_of_ble_eq_true (by decide +kernel)
  exact key 901 f (Nat.le_trans hfu hf) L M ⟨hQ.1, hQ.2.1, hQ.2.2⟩ hM.1 hM.2.1 hM.2.2 (by have := hb.1; omega)
end
