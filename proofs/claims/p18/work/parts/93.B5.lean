/-! a row's copy; a call whose throws are caught -/
section OPS6
variable {kd : Nat → Nat} {sh : Nat → Sh} {rt : Nat → Nat → Nat} {bd : Nat → Int → Int × Int} {Wp PR : Nat → Int → Bool} {Inv : Mem → Prop} {M0 : Mem} {Ev : Env9} {Zo : Nat} {B : List Int} {c : Nat} {P : Res → Prop} {K : KK} {k : SS → SR} {call : Call} {un : Nat → Bool} {j : Jmp} {xj : Nat → SS → SR}
theorem pget_pcpy (p q sp dp : Nat) : ∀ (N j : Nat), pget (pcpy p q sp dp N) j = if dp ≤ j ∧ j < dp + N then pget p (sp + (j - dp)) else pget q j := by
  intro N
  induction N with
  | zero => intro j; rw [if_neg (by omega)]; rfl
  | succ N ih =>
    intro j
    show pget (pset (pcpy p q sp dp N) (dp + N) (pget p (sp + N))) j = _
    rw [pget_pset]
    by_cases e : j = dp + N
    · rw [if_pos e, if_pos (by omega), e, Nat.mod_eq_of_lt (pget_lt _ _)]
      congr 1
      omega
    · rw [if_neg e, ih]
      by_cases e2 : dp ≤ j ∧ j < dp + N
      · rw [if_pos e2, if_pos (by omega)]
      · rw [if_neg e2, if_neg (by omega)]
/-- facts of other kinds -/
noncomputable def ydk (kd : Nat → Nat) (κ : Nat) (H : OV) : OV := List.rec (motive := fun _ => OV) [] (fun h _ ih => Bool.rec (h :: ih) ih (Nat.beq (kdR kd h.1.1) κ)) H
theorem ydk_mem {κ : Nat} : ∀ {H : OV} {h : (RK × Aff) × Aff}, h ∈ ydk kd κ H → h ∈ H ∧ kdR kd h.1.1 ≠ κ := by
  intro H
  induction H with
  | nil => intro h hm; cases hm
  | cons q H ih =>
    intro h hm
    have hm : h ∈ (Bool.rec (q :: ydk kd κ H) (ydk kd κ H) (Nat.beq (kdR kd q.1.1) κ) : OV) := hm
    cases hb : Nat.beq (kdR kd q.1.1) κ with
    | true => rw [hb] at hm; obtain ⟨h1, h2⟩ := ih hm; exact ⟨List.mem_cons_of_mem _ h1, h2⟩
    | false =>
      rw [hb] at hm
      rcases List.mem_cons.mp hm with e | e
      · rw [e]; exact ⟨List.mem_cons_self, fun q9 => by rw [q9, Nat.beq_refl] at hb; cases hb⟩
      · obtain ⟨h1, h2⟩ := ih e; exact ⟨List.mem_cons_of_mem _ h1, h2⟩
/-- a write of some places of a cell -/
def Wrk (M M' : Mem) (k : Nat) (C : Nat → Prop) : Prop := ∀ k' i' : Nat, k' < 466 → (k' ≠ k ∨ ¬ C i') → rdI M' k' i' = rdI M k' i'
theorem gm_k (hI : Hang kd PR Inv) {M M' : Mem} {k : Nat} {C : Nat → Prop} (hw : Wrk M M' k C) (hT : TI kd sh rt bd M') (hp : ∀ i : Nat, C i → PR (kd k) i = false) (hq : ∀ i : Nat, C i → Wp (kd k) i = true) (hM : GM kd sh rt bd Wp Inv M0 M) : GM kd sh rt bd Wp Inv M0 M' := by
  have key : ∀ (F : Nat → Int → Bool) (v : Bool), (∀ i : Nat, C i → F (kd k) i = !v) → ∀ k' : Nat, k' < 466 → ∀ i' : Nat, F (kd k') i' = v → rdI M' k' i' = rdI M k' i' := by
    intro F v hF k' hk i' hi
    refine hw k' i' hk ?_
    by_cases e1 : k' = k
    · refine Or.inr fun hC => ?_
      subst e1
      rw [hF i' hC] at hi
      cases v <;> cases hi
    · exact Or.inl e1
  exact ⟨hT, hI M M' hM.2.1 (key PR true (fun i hi => hp i hi)), fun k' hk' i' hi' => by rw [key Wp false (fun i hi => hq i hi) k' hk' i' hi']; exact hM.2.2 k' hk' i' hi'⟩
theorem ovl_k {G : List Int} {H : OV} {M M' : Mem} {k : Nat} {C : Nat → Prop} (hw : Wrk M M' k C) (ho : ovl kd G H M) : ovl kd G (ydk kd (kd k) H) M' := by
  intro h hm
  obtain ⟨g1, g2⟩ := ydk_mem hm
  obtain ⟨k', i', q1, q2, q3⟩ := ho h g1
  exact ⟨k', i', q1, q2, by rw [hw k' i' q1.1 (Or.inl fun e => g2 (by rw [← rkc_kd q1, e]))]; exact q3⟩
noncomputable def ycn (q : Aff) : Bool := Bool.rec false (ile 0 q.2.2) (ieq q.2.1 0)
theorem ycn_ok {G : List Int} {q : Aff} {x : Nat} (hx : x < 4294967296) (h : ycn q = true) (hv : yev G q = some (sg x)) (hs : q.2.2.toNat ≤ 100000) : x = q.2.2.toNat := by
  obtain ⟨h1, h2⟩ := band h
  have h1 := ieq_iff.mp h1
  have h2 := ile_iff.mp h2
  rcases yev_some hv with ⟨_, k2⟩ | ⟨k1, _⟩
  · have h3 : x ≤ 2147483647 := by unfold sg bi at k2; omega
    have := sg_eq h3
    omega
  · exact absurd h1 k1
noncomputable def x_copy (kd : Nat → Nat) (sh : Nat → Sh) (bd : Nat → Int → Int × Int) (Wp PR : Nat → Int → Bool) : (SS → SR) → SS → SR := fun k σ => match σ.2.2.1 with
  | .inl nn :: S => (match S with
    | .inl dd :: S => (match S with
      | .inr (.inr (.inl rb)) :: S => (match S with
        | .inl ss :: S => (match S with
          | .inr (.inr (.inl ra)) :: S => (match sh (kdR kd ra), sh (kdR kd rb) with
            | .inr (.inl qa), .inr (.inl qb) => gdS (Bool.rec false (Nat.beq qb.1 0) (Nat.beq qa.1 0)) (gdS (Bool.rec false (Bool.rec false (ycn ss) (ycn dd)) (ycn nn)) (gdS (Bool.rec false (Nat.ble (dd.2.2.toNat + nn.2.2.toNat) qb.2) (Nat.ble (ss.2.2.toNat + nn.2.2.toNat) qa.2)) (gdS (Nat.ble (ycat S) 8)
              (gdS (yall nn.2.2.toNat 0 fun v => Bool.rec false (ile (bd (kdR kd ra) ((ss.2.2.toNat : Int) + v)).2 (bd (kdR kd rb) ((dd.2.2.toNat : Int) + v)).2) (ile (bd (kdR kd rb) ((dd.2.2.toNat : Int) + v)).1 (bd (kdR kd ra) ((ss.2.2.toNat : Int) + v)).1))
                (gdS (yall nn.2.2.toNat 0 fun v => ywp Wp PR (kdR kd rb) ((dd.2.2.toNat : Int) + v)) (k (σ.1, σ.2.1, S, ydk kd (kdR kd rb) σ.2.2.2.1, σ.2.2.2.2)))))))
            | _, _ => none)
          | _ => none)
        | _ => none)
      | _ => none)
    | _ => none)
  | _ => none
theorem op_copy_n {E : Env9} {n z a b sp dp N Na Nb pa pb : Nat} {L S : List AV} {M : Mem} (ha : tget 9 M a = cI 0 Na pa []) (hb : tget 9 M b = cI 0 Nb pb []) (h1 : sp + N ≤ Na) (h2 : dp + N ≤ Nb) (h3 : catS S ≤ 8) (h4 : N ≤ 100000) : op_copy call K E n z L (vI N :: vI dp :: vR b :: vI sp :: vR a :: S) M = K E n z L S (tset 9 M b (cI 0 Nb (pcpy pa pb sp dp N) [])) := by
  have e : op_copy call K E n z L (vI N :: vI dp :: vR b :: vI sp :: vR a :: S) M = (match tget 9 M a, tget 9 M b with
    | .inr (.inl u), .inr (.inl w) => gd (Nat.beq u.1 0) (gd (Nat.beq w.1 0) (gd (Nat.ble (sp + N) u.2.1) (gd (Nat.ble (dp + N) w.2.1) (match u.2.2.2, w.2.2.2 with
      | [], [] => gd (Nat.ble (catS S) 8) (gd (Nat.ble N 100000) (fN (pcpy u.2.2.1 w.2.2.1 sp dp N) fun r => K E n z L S (tset 9 M b (cI 0 w.2.1 r []))))
      | _, _ => none))))
    | _, _ => none) := rfl
  rw [e, ha, hb]
  show gd (Nat.ble (sp + N) Na) (gd (Nat.ble (dp + N) Nb) (gd (Nat.ble (catS S) 8) (gd (Nat.ble N 100000) (fN (pcpy pa pb sp dp N) fun r => K E n z L S (tset 9 M b (cI 0 Nb r [])))))) = _
  rw [Nat.ble_eq_true_of_le h1, Nat.ble_eq_true_of_le h2, Nat.ble_eq_true_of_le h3, Nat.ble_eq_true_of_le h4, fN_eq]
  rfl
theorem s_copy (hI : Hang kd PR Inv) (hK : KS kd sh rt bd Wp Inv M0 Ev Zo B c P K k) : KS kd sh rt bd Wp Inv M0 Ev Zo B c P (op_copy call K) (x_copy kd sh bd Wp PR k) := by
  intro σ c' os h hc ho G L S M hB hS hM
  obtain ⟨E, Ls, Ss, H, z⟩ := σ
  rcases Ss with _ | ⟨a1, Ss⟩
  · cases h
  rcases a1 with nn | q | q | q | q | q
  · rcases Ss with _ | ⟨a2, Ss⟩
    · cases h
    rcases a2 with dd | q | q | q | q | q
    · rcases Ss with _ | ⟨a3, Ss⟩
      · cases h
      rcases a3 with q | q | rb | q | q | q
      · cases h
      · cases h
      · rcases Ss with _ | ⟨a4, Ss⟩
        · cases h
        rcases a4 with ss | q | q | q | q | q
        · rcases Ss with _ | ⟨a5, Ss⟩
          · cases h
          rcases a5 with q | q | ra | q | q | q
          · cases h
          · cases h
          · obtain ⟨v1, S, rfl, g1, s1⟩ := svs_cons hS.2.2.1
            obtain ⟨v2, S, rfl, g2, s2⟩ := svs_cons s1
            obtain ⟨v3, S, rfl, g3, s3⟩ := svs_cons s2
            obtain ⟨v4, S, rfl, g4, s4⟩ := svs_cons s3
            obtain ⟨v5, S, rfl, g5, s5⟩ := svs_cons s4
            obtain ⟨xn, rfl, n1, n2⟩ := g1
            obtain ⟨xd, rfl, d1, d2⟩ := g2
            obtain ⟨kb, rfl, b1⟩ := g3
            obtain ⟨xs, rfl, p1, p2⟩ := g4
            obtain ⟨ka, rfl, a1⟩ := g5
            have hka := rkc_kd a1
            have hkb := rkc_kd b1
            unfold x_copy at h
            cases hsa : sh (kdR kd ra) with
            | inl q => simp only [hsa] at h; cases h
            | inr q =>
              rcases q with qa | q
              · cases hsb : sh (kdR kd rb) with
                | inl q => simp only [hsa, hsb] at h; cases h
                | inr q =>
                  rcases q with qb | q
                  · simp only [hsa, hsb] at h
                    obtain ⟨h1, h⟩ := gdS_some h
                    obtain ⟨h2, h⟩ := gdS_some h
                    obtain ⟨h3, h⟩ := gdS_some h
                    obtain ⟨h4, h⟩ := gdS_some h
                    obtain ⟨h5, h⟩ := gdS_some h
                    obtain ⟨h6, hfin⟩ := gdS_some h
                    obtain ⟨ta, Na⟩ := qa
                    obtain ⟨tb, Nb⟩ := qb
                    obtain ⟨h1a, h1b⟩ := band h1
                    have h1a : ta = 0 := Nat.eq_of_beq_eq_true h1a
                    have h1b : tb = 0 := Nat.eq_of_beq_eq_true h1b
                    subst h1a
                    subst h1b
                    obtain ⟨h2a, h2b⟩ := band h2
                    obtain ⟨h2b, h2c⟩ := band h2b
                    obtain ⟨h3a, h3b⟩ := band h3
                    have h3a := Nat.le_of_ble_eq_true h3a
                    have h3b := Nat.le_of_ble_eq_true h3b
                    obtain ⟨pa, fa1, fa2, fa3⟩ := co_arr hM.1 a1.1 (by rw [hka]; exact hsa)
                    obtain ⟨pb, fb1, fb2, fb3⟩ := co_arr hM.1 b1.1 (by rw [hkb]; exact hsb)
                    have h3a : ss.2.2.toNat + nn.2.2.toNat ≤ Na := h3a
                    have h3b : dd.2.2.toNat + nn.2.2.toNat ≤ Nb := h3b
                    have fa2 : Na ≤ 100000 := fa2
                    have fb2 : Nb ≤ 100000 := fb2
                    have en := ycn_ok n1 h2a n2 (by omega)
                    have ed := ycn_ok d1 h2b d2 (by omega)
                    have es := ycn_ok p1 h2c p2 (by omega)
                    rw [← en, ← es] at h3a
                    rw [← en, ← ed] at h3b
                    rw [← en, ← ed, ← es] at h5
                    rw [← en, ← ed] at h6
                    show OKo (op_copy call K Ev 466 (Zo + z) L (vI xn :: vI xd :: vR kb :: vI xs :: vR ka :: S) M) _
                    rw [op_copy_n fa1 fb1 h3a h3b (by rw [ycat_ok s5]; exact Nat.le_of_ble_eq_true h4) (by omega)]
                    have hw : Wrk M (tset 9 M kb (cI 0 Nb (pcpy pa pb xs xd xn) [])) kb (fun i => xd ≤ i ∧ i < xd + xn) := by
                      intro k' i' hk' hh
                      by_cases e : k' = kb
                      · subst e
                        rw [rdI_self hk']
                        show sg (pget (pcpy pa pb xs xd xn) i') = _
                        rw [pget_pcpy, if_neg (hh.resolve_left (fun q => q rfl))]
                        unfold rdI
                        rw [fb1]
                        rfl
                      · exact rdI_other b1.1 hk' e
                    have hT : TI kd sh rt bd (tset 9 M kb (cI 0 Nb (pcpy pa pb xs xd xn) [])) := by
                      refine ti_set hM.1 b1.1 ?_
                      unfold cOK
                      rw [hkb, hsb]
                      refine ⟨_, rfl, fb2, fun i hi => ?_⟩
                      rw [pget_pcpy]
                      by_cases e : xd ≤ i ∧ i < xd + xn
                      · rw [if_pos e]
                        have q1 := fa3 (xs + (i - xd)) (by show _ < Na; omega)
                        obtain ⟨q2, q3⟩ := band (yall_ok h5 ((i - xd : Nat) : Int) (by omega) (by omega))
                        have q2 := ile_iff.mp q2
                        have q3 := ile_iff.mp q3
                        rw [show (xd : Int) + ((i - xd : Nat) : Int) = (i : Int) by omega] at q2 q3
                        rw [show (xs : Int) + ((i - xd : Nat) : Int) = ((xs + (i - xd) : Nat) : Int) by omega] at q2 q3
                        rw [hka] at q1
                        exact ⟨Int.le_trans q2 q1.1, Int.le_trans q1.2 q3⟩
                      · rw [if_neg e]
                        have q1 := fb3 i hi
                        rw [hkb] at q1
                        exact q1
                    have hW : ∀ i : Nat, (xd ≤ i ∧ i < xd + xn) → Wp (kd kb) i = true ∧ PR (kd kb) i = false := by
                      intro i hi
                      have q1 := yall_ok h6 ((i - xd : Nat) : Int) (by omega) (by omega)
                      rw [show (xd : Int) + ((i - xd : Nat) : Int) = (i : Int) by omega] at q1
                      rw [hkb]
                      exact ywp_ok q1
                    exact ks_use hK (σ := (E, Ls, Ss, ydk kd (kdR kd rb) H, z)) hfin hc ho hB ⟨hS.1, hS.2.1, s5, by rw [← hkb]; exact ovl_k hw hS.2.2.2⟩ (gm_k hI hw hT (fun i hi => (hW i hi).2) (fun i hi => (hW i hi).1) hM)
                  · simp only [hsa, hsb] at h; cases h
              · simp only [hsa] at h; cases h
          all_goals cases h
        all_goals cases h
      all_goals cases h
    all_goals cases h
  all_goals cases h
noncomputable def x_callH (kd : Nat → Nat) (sh : Nat → Sh) (g y na bud Bd t : Nat) (hd : List Nat) (xc : XC) (xj : Nat → SS → SR) : SS → SR := fun σ =>
  gdS (Nat.ble na (ylen σ.2.2.1)) (gdS (Nat.ble (ycat (yspl na [] σ.2.2.1).2) 8) (gdS (Nat.ble (σ.2.2.2.2 + bud) Bd) (gdS (xgN kd sh g (yspl na [] σ.2.2.1).1) (match xc y σ.1 (yspl na [] σ.2.2.1).1 σ.2.2.2.1 with
    | some os => yjoin (fun o => match o.1.1 with
      | 0 => xj t (o.2.1, σ.2.1, o.2.2.1 :: (yspl na [] σ.2.2.1).2, o.2.2.2.1, σ.2.2.2.2 + bud)
      | 1 => xj t (o.2.1, σ.2.1, (yspl na [] σ.2.2.1).2, o.2.2.2.1, σ.2.2.2.2 + bud)
      | 2 => (match nthN hd 0 o.1.2 with | 0 => none | b + 1 => xj b (o.2.1, σ.2.1, [sW 1], o.2.2.2.1, σ.2.2.2.2 + bud))
      | _ => none) os
    | none => none))))
theorem s_callH {xc : XC} {g y na bud Bd Bc t : Nat} {hd : List Nat} (hb : Zo + Bd ≤ Bc) (hC : CS kd sh rt bd Wp Inv M0 Ev call xc) (hj : KJ kd sh rt bd Wp Inv M0 Ev Zo B c P j xj) : KS kd sh rt bd Wp Inv M0 Ev Zo B c P (tm_callH (gN g) y na bud Bc t hd call j) (x_callH kd sh g y na bud Bd t hd xc xj) := by
  intro σ c' os h hc ho G L S M hB hS hM
  obtain ⟨h1, h⟩ := gdS_some h
  obtain ⟨h2, h⟩ := gdS_some h
  obtain ⟨h3, h⟩ := gdS_some h
  obtain ⟨h4, h⟩ := gdS_some h
  rw [ylen_eq] at h1
  obtain ⟨s1, s2⟩ := yspl_ok na [] σ.2.2.1 [] S (Nat.le_of_ble_eq_true h1) trivial hS.2.2.1
  have e1 : Nat.ble na S.length = true := by rw [← svs_len hS.2.2.1]; exact h1
  have e2 : Nat.ble (catS (spl na [] S).2) 8 = true := by rw [ycat_ok s2]; exact h2
  have e3 : Nat.ble (Zo + σ.2.2.2.2 + bud) Bc = true := Nat.ble_eq_true_of_le (by have := Nat.le_of_ble_eq_true h3; omega)
  have e4 := xgN_ok hM.1 h4 s1
  cases hx : xc y σ.1 (yspl na [] σ.2.2.1).1 σ.2.2.2.1 with
  | none => rw [hx] at h; cases h
  | some os9 =>
    rw [hx] at h
    have key : OKo (call y Ev 466 (spl na [] S).1 M) (fun r => OKo (match r with
        | ((0, _), E', v, _, _, M', n', _) => fN n' fun n' => j t E' n' (Zo + σ.2.2.2.2 + bud) L (v :: (spl na [] S).2) M'
        | ((1, _), E', _, _, _, M', n', _) => fN n' fun n' => j t E' n' (Zo + σ.2.2.2.2 + bud) L (spl na [] S).2 M'
        | ((2, x), E', _, _, _, M', n', _) => fN n' fun n' => hcase (nthN hd 0 x) fun b => j b E' n' (Zo + σ.2.2.2.2 + bud) L [vW 1] M'
        | _ => none : OR) P) := by
      refine hC y _ _ _ os9 hx G _ M _ hS.1 s1 hS.2.2.2 hM (fun o hm G' r p1 p2 p3 p4 p5 p6 p7 p8 => ?_)
      obtain ⟨x, k1, k2, k3⟩ := yjoin_mem h o hm
      obtain ⟨⟨r1, r2⟩, rE, rv, rS, rL, rM, rn, rz⟩ := r
      obtain ⟨⟨o1, o2⟩, oE, ov, oH, oz⟩ := o
      have p5 : ((r1, r2) : Nat × Nat) = (o1, o2) := p5
      have p6 : rE = Ev := p6
      have p7 : rn = 466 := p7
      cases p5
      cases p6
      cases p7
      match r1, k1, p8 with
      | 0, k1, p8 =>
        have hu := ks_use (hj t) (σ := (oE, σ.2.1, ov :: (yspl na [] σ.2.2.1).2, oH, σ.2.2.2.2 + bud)) (S := rv :: (spl na [] S).2) k1 (Nat.le_trans k2 hc) (fun q hq => ho q (k3 q hq)) (hB.trans p1) ⟨p2, svs_mono p1 hS.2.1, ⟨p8 rfl, svs_mono p1 s2⟩, p3⟩ p4
        show OKo (fN 466 fun n' => j t Ev n' (Zo + σ.2.2.2.2 + bud) L (rv :: (spl na [] S).2) rM) P
        rw [fN_eq, Nat.add_assoc]
        exact hu
      | 1, k1, p8 =>
        have hu := ks_use (hj t) (σ := (oE, σ.2.1, (yspl na [] σ.2.2.1).2, oH, σ.2.2.2.2 + bud)) (S := (spl na [] S).2) k1 (Nat.le_trans k2 hc) (fun q hq => ho q (k3 q hq)) (hB.trans p1) ⟨p2, svs_mono p1 hS.2.1, svs_mono p1 s2, p3⟩ p4
        show OKo (fN 466 fun n' => j t Ev n' (Zo + σ.2.2.2.2 + bud) L (spl na [] S).2 rM) P
        rw [fN_eq, Nat.add_assoc]
        exact hu
      | 2, k1, p8 =>
        show OKo (fN 466 fun n' => hcase (nthN hd 0 r2) fun b => j b Ev n' (Zo + σ.2.2.2.2 + bud) L [vW 1] rM) P
        rw [fN_eq]
        have k1 : (match nthN hd 0 r2 with | 0 => none | b + 1 => xj b (oE, σ.2.1, [sW 1], oH, σ.2.2.2.2 + bud) : SR) = some x := k1
        cases hn : nthN hd 0 r2 with
        | zero => rw [hn] at k1; cases k1
        | succ b =>
          rw [hn] at k1
          rw [Nat.add_assoc]
          exact ks_use (hj b) (σ := (oE, σ.2.1, [sW 1], oH, σ.2.2.2.2 + bud)) (S := [vW 1]) k1 (Nat.le_trans k2 hc) (fun q hq => ho q (k3 q hq)) (hB.trans p1) ⟨p2, svs_mono p1 hS.2.1, ⟨rfl, trivial⟩, p3⟩ p4
      | o1 + 3, k1, p8 => exact nomatch k1
    obtain ⟨r, g1, g2⟩ := key
    show OKo (gd (Nat.ble na S.length) (gd (Nat.ble (catS (spl na [] S).2) 8) (gd (Nat.ble (Zo + σ.2.2.2.2 + bud) Bc) (gd (gN g (spl na [] S).1 M) (match call y Ev 466 (spl na [] S).1 M with | some rs => joinR _ rs | none => none))))) P
    rw [e1, e2, e3, e4, g1]
    rw [gd4 joinR_1]
    exact g2
end OPS6
