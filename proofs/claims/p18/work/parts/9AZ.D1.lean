/-! runs of a piece of a method: from a station to the next -/
noncomputable def xrunT (kd : Nat → Nat) (sh : Nat → Sh) (bd : Nat → Int → Int × Int) (code : Nat → Option XBl) (ans : Nat → Option An) (stp : Nat → Option (SS → Bool)) (xc : XC) (xf : Nat) : List Rc → Nat → SS → SR := Nat.rec (motive := fun _ => List Rc → Nat → SS → SR) (fun _ _ _ => none) (fun _ ih hs b σ => match yrec hs b with
  | some rc => gdS (Bool.rec false (ybkv rc.2.2.1 rc.2.2.2 σ) (ybk0 kd rc.2.1 rc.2.2.1 (ylen rc.2.1.1) σ)) (some (0, []))
  | none => (match stp b with
    | some k => gdS (k σ) (some (0, []))
    | none => (match code b with
    | some bl => (match ans b with
      | some an => xhead kd an (ymatS kd sh bd an σ) (fun q => xB xc (ih ((b, ymatS kd sh bd an σ, an, q.2) :: hs)) bl.2 bl.1 q.1)
      | none => ytim 1 (xB xc (ih hs) bl.2 bl.1 σ))
    | none => none))) xf
section RUN3
variable {kd : Nat → Nat} {sh : Nat → Sh} {rt : Nat → Nat → Nat} {bd : Nat → Int → Int × Int} {Wp PR : Nat → Int → Bool} {Inv : Mem → Prop} {M0 : Mem} {Ev : Env9} {Zo : Nat}
theorem mul_lemF {m c f F : Nat} (h : (m + 1 + 1) * (c + 1) + F ≤ f) : ∃ f1, f = f1 + 1 ∧ c + F ≤ f1 ∧ (m + 1) * (c + 1) + F ≤ f1 - c := by
  have e : (m + 1 + 1) * (c + 1) = (m + 1) * (c + 1) + (c + 1) := Nat.succ_mul _ _
  exact ⟨f - 1, by omega, by omega, by omega⟩
theorem xrunT_ok {code : Nat → Option XBl} {ans : Nat → Option An} {call : Call} {xc : XC} (hC : CS kd sh rt bd Wp Inv M0 Ev call xc) {d : Nat} {ct : TrT Blk d} (hcode : ∀ b xl, code b = some xl → SBL kd sh rt bd Wp Inv M0 Ev Zo xl (tget d ct b)) {P : Res → Prop} {stp : Nat → Option (SS → Bool)} {F : Nat} {B0 : List Int} (hst : ∀ b k, stp b = some k → ∀ f', F ≤ f' → ∀ (σ : SS) (G : List Int) (L S : List AV) (M : Mem), k σ = true → B0 <+: G → Sat kd G σ L S M → GM kd sh rt bd Wp Inv M0 M → OKo (runF call d ct f' b Ev 466 (Zo + σ.2.2.2.2) L S M) P) : ∀ (xf : Nat) (hs : List Rc) (b : Nat) (f c : Nat) (B : List Int), B0 <+: B → c + F ≤ f → HS kd sh rt bd Wp Inv M0 Ev Zo (runF call d ct) hs f c B P → KS kd sh rt bd Wp Inv M0 Ev Zo B c P (runF call d ct f b) (xrunT kd sh bd code ans stp xc xf hs b) := by
  intro xf
  induction xf with
  | zero => intro hs b f c B _ _ _ σ c' os h; cases h
  | succ xf ih =>
    intro hs b f c B hB0 hcf hHS σ c' os h hc ho G L S M hB hS hM
    have h : (match yrec hs b with
      | some rc => gdS (Bool.rec false (ybkv rc.2.2.1 rc.2.2.2 σ) (ybk0 kd rc.2.1 rc.2.2.1 (ylen rc.2.1.1) σ)) (some (0, []))
      | none => (match stp b with
        | some k => gdS (k σ) (some (0, []))
        | none => (match code b with
        | some bl => (match ans b with
          | some an => xhead kd an (ymatS kd sh bd an σ) (fun q => xB xc (xrunT kd sh bd code ans stp xc xf ((b, ymatS kd sh bd an σ, an, q.2) :: hs)) bl.2 bl.1 q.1)
          | none => ytim 1 (xB xc (xrunT kd sh bd code ans stp xc xf hs) bl.2 bl.1 σ))
        | none => none)) : SR) = some (c', os) := h
    cases hr : yrec hs b with
    | some rc =>
      rw [hr] at h
      obtain ⟨h1, h2⟩ := gdS_some h
      obtain ⟨h3, h4⟩ := band h1
      obtain ⟨m1, m2⟩ := yrec_mem hr
      obtain ⟨G0, v0, q1, q2, q3, q4⟩ := hHS rc m1
      have e0 : ylen rc.2.1.1 = G0.length := by rw [ylen_eq, q2.1]
      rw [e0] at h3
      obtain ⟨k1, k2, k3, q, bb, v, k4, k5, k6⟩ := ybk0_ok (q1.trans hB) q2 hS h3
      have k7 := ybkv_ok h4 k4 k5 (pre_at hB q3) k6
      rw [k1, k2, ← m2]
      exact q4 f (by omega) (Nat.le_refl _) L M v k3 k6 k7 hM
    | none =>
      rw [hr] at h
      rcases hq : stp b with _ | kq
      rotate_left
      · rw [hq] at h
        obtain ⟨h1, h2⟩ := gdS_some h
        exact hst b kq hq f (by omega) σ G L S M h1 (hB0.trans hB) hS hM
      rw [hq] at h
      cases hb : code b with
      | none => rw [hb] at h; cases h
      | some bl =>
        rw [hb] at h
        obtain ⟨t1, t2⟩ := hcode b bl hb
        cases ha : ans b with
        | none =>
          rw [ha] at h
          obtain ⟨x, e1, e2, e3⟩ := ytim_some h
          have e2 : c' = 1 * (x.1 + 1) := e2
          have e3 : os = x.2 := e3
          obtain ⟨f1, rfl⟩ : ∃ f1, f = f1 + 1 := ⟨f - 1, by omega⟩
          have hk := xB_ok hC (c := x.1) (P := P) (B := B) (j := runF call d ct f1) (xj := xrunT kd sh bd code ans stp xc xf hs) (fun b' => ih hs b' f1 x.1 B hB0 (by omega) (hs_less hHS (by omega) (by omega) (List.prefix_refl _))) t1 t2
          exact ks_use hk (σ := σ) e1 (Nat.le_refl _) (fun o h9 => ho o (by rw [e3]; exact h9)) hB hS hM
        | some an =>
          rw [ha] at h
          obtain ⟨Gm, m1, m2, m3⟩ := ymat_ok hM.1 (l := an.2.1) (p := (σ.1, σ.2.2.2.1)) hS.1 hS.2.2.2
          have hS' : Sat kd Gm (ymatS kd sh bd an σ) L S M := ⟨m2, svs_mono m1 hS.2.1, svs_mono m1 hS.2.2.1, m3⟩
          have hB' := hB.trans m1
          have ez : (ymatS kd sh bd an σ).2.2.2.2 = σ.2.2.2.2 := rfl
          rw [← ez]
          have h : xhead kd an (ymatS kd sh bd an σ) (fun q => xB xc (xrunT kd sh bd code ans stp xc xf ((b, ymatS kd sh bd an σ, an, q.2) :: hs)) bl.2 bl.1 q.1) = some (c', os) := h
          clear hS hB m1 m2 m3 ez
          generalize ymatS kd sh bd an σ = σ at h hS'
          have hS := hS'
          have hB := hB'
          clear hS' hB'
          generalize Gm = G at hS hB
          obtain ⟨h1, h⟩ := gdS_some h
          cases hh : yhead kd σ an with
          | none => rw [hh] at h; cases h
          | some q =>
            rw [hh] at h
            obtain ⟨x, e1, e2, e3⟩ := ytim_some h
            have e2 : c' = (ymx an + 1) * (x.1 + 1) := e2
            have e3 : os = x.2 := e3
            have e0 : ylen σ.1 = G.length := by rw [ylen_eq, hS.1.1]
            rw [e0] at h1
            obtain ⟨k1, k2, k3, qq, bb, v, k4, k5, k6⟩ := ybk0_ok (List.prefix_refl G) hS.1 hS h1
            have main : ∀ m f', (m + 1) * (x.1 + 1) + F ≤ f' → HS kd sh rt bd Wp Inv M0 Ev Zo (runF call d ct) hs f' ((m + 1) * (x.1 + 1)) G P → ∀ (L : List AV) (M : Mem) (v : Int), PrHd kd G σ an L M → Var kd G an L M v → yms an v ≤ m → GM kd sh rt bd Wp Inv M0 M → OKo (runF call d ct f' b Ev 466 (Zo + σ.2.2.2.2) L [] M) P := by
              intro m
              induction m with
              | zero =>
                intro f' hf hH L M v p1 p2 p3 p4
                obtain ⟨Gh, g1, g2, g3⟩ := yhead_ok hh p1
                obtain ⟨f1, rfl⟩ : ∃ f1, f' = f1 + 1 := ⟨f' - 1, by omega⟩
                have hk := xB_ok hC (c := x.1) (P := P) (B := Gh) (j := runF call d ct f1) (xj := xrunT kd sh bd code ans stp xc xf ((b, σ, an, q.2) :: hs)) (fun b' => ih _ b' f1 x.1 Gh (hB0.trans (hB.trans g1)) (by omega) (by
                  intro rc hm
                  rcases List.mem_cons.mp hm with e | e
                  · subst e
                    exact ⟨G, v, g1, hS.1, g3 v p2, fun f2 _ _ L2 M2 v2 _ _ w3 _ => by have w3 : yms an v2 < yms an v := w3; omega⟩
                  · exact hs_less hH (f2 := f1) (c2 := x.1) (by omega) (by omega) g1 rc e)) t1 t2
                have e9 : q.1.2.2.2.2 = σ.2.2.2.2 := by
                  unfold yhead at hh
                  cases hs9 : σ.2.2.1 with
                  | cons _ _ => rw [hs9] at hh; cases hh
                  | nil =>
                    rw [hs9] at hh
                    simp only at hh
                    cases h8 : yhS an.2.2.2.1 (yhH an.2.1 ((yhL an.1 (σ.1, ypreL an.1 an.2.2.2.2.2.2 σ.2.1)).1, ypreH kd an σ.1 σ.2.2.2.1)).2 (yhH an.2.1 ((yhL an.1 (σ.1, ypreL an.1 an.2.2.2.2.2.2 σ.2.1)).1, ypreH kd an σ.1 σ.2.2.2.1)).1 with
                    | none => rw [h8] at hh; cases hh
                    | some E9 => rw [h8] at hh; cases hh; rfl
                have := ks_use hk (σ := q.1) e1 (Nat.le_refl _) (fun o h9 => outP_up (hB.trans g1) (ho o (by rw [e3]; exact h9))) (List.prefix_refl _) g2 p4
                rw [e9] at this
                exact this
              | succ m ihm =>
                intro f' hf hH L M v p1 p2 p3 p4
                obtain ⟨Gh, g1, g2, g3⟩ := yhead_ok hh p1
                obtain ⟨f1, rfl, f2, f3⟩ := mul_lemF hf
                have em : (m + 1 + 1) * (x.1 + 1) = (m + 1) * (x.1 + 1) + (x.1 + 1) := Nat.succ_mul _ _
                have hk := xB_ok hC (c := x.1) (P := P) (B := Gh) (j := runF call d ct f1) (xj := xrunT kd sh bd code ans stp xc xf ((b, σ, an, q.2) :: hs)) (fun b' => ih _ b' f1 x.1 Gh (hB0.trans (hB.trans g1)) f2 (by
                  intro rc hm
                  rcases List.mem_cons.mp hm with e | e
                  · subst e
                    exact ⟨G, v, g1, hS.1, g3 v p2, fun f4 w1 w2 L2 M2 v2 u1 u2 u3 u4 => ihm f4 (by omega) (hs_less hH (f2 := f4) (c2 := (m + 1) * (x.1 + 1)) (by omega) (by omega) (List.prefix_refl _)) L2 M2 v2 u1 u2 (by have u3 : yms an v2 < yms an v := u3; omega) u4⟩
                  · exact hs_less hH (f2 := f1) (c2 := x.1) (by omega) (by omega) g1 rc e)) t1 t2
                have e9 : q.1.2.2.2.2 = σ.2.2.2.2 := by
                  unfold yhead at hh
                  cases hs9 : σ.2.2.1 with
                  | cons _ _ => rw [hs9] at hh; cases hh
                  | nil =>
                    rw [hs9] at hh
                    simp only at hh
                    cases h8 : yhS an.2.2.2.1 (yhH an.2.1 ((yhL an.1 (σ.1, ypreL an.1 an.2.2.2.2.2.2 σ.2.1)).1, ypreH kd an σ.1 σ.2.2.2.1)).2 (yhH an.2.1 ((yhL an.1 (σ.1, ypreL an.1 an.2.2.2.2.2.2 σ.2.1)).1, ypreH kd an σ.1 σ.2.2.2.1)).1 with
                    | none => rw [h8] at hh; cases hh
                    | some E9 => rw [h8] at hh; cases hh; rfl
                have := ks_use hk (σ := q.1) e1 (Nat.le_refl _) (fun o h9 => outP_up (hB.trans g1) (ho o (by rw [e3]; exact h9))) (List.prefix_refl _) g2 p4
                rw [e9] at this
                exact this
            rw [k1]
            exact main (ymx an) f (by omega) (hs_less hHS (Nat.le_refl _) (by omega) hB) L M v k3 k6 (yms_le k6) hM
/-- from a block on, to ends and stations -/
noncomputable def xsegT (kd : Nat → Nat) (sh : Nat → Sh) (bd : Nat → Int → Int × Int) (code : Nat → Option XBl) (ans : Nat → Option An) (stp : Nat → Option (SS → Bool)) (xc : XC) (b : Nat) (σ : SS) : SR := match code b with
  | some bl => ytim 1 (xB xc (xrunT kd sh bd code ans stp xc 400 []) bl.2 bl.1 σ)
  | none => none
theorem xsegT_ok {code : Nat → Option XBl} {ans : Nat → Option An} {call : Call} {xc : XC} (hC : CS kd sh rt bd Wp Inv M0 Ev call xc) {d : Nat} {ct : TrT Blk d} (hcode : ∀ b xl, code b = some xl → SBL kd sh rt bd Wp Inv M0 Ev Zo xl (tget d ct b)) {P : Res → Prop} {stp : Nat → Option (SS → Bool)} {F : Nat} {G : List Int} (hst : ∀ b k, stp b = some k → ∀ f', F ≤ f' → ∀ (σ : SS) (G' : List Int) (L S : List AV) (M : Mem), k σ = true → G <+: G' → Sat kd G' σ L S M → GM kd sh rt bd Wp Inv M0 M → OKo (runF call d ct f' b Ev 466 (Zo + σ.2.2.2.2) L S M) P) {b f : Nat} {σ : SS} {r : Nat × List Out} (h : xsegT kd sh bd code ans stp xc b σ = some r) (hf : r.1 + F ≤ f) {L S : List AV} {M : Mem} (ho : ∀ o ∈ r.2, OutP kd sh rt bd Wp Inv M0 Ev G P o) (hS : Sat kd G σ L S M) (hM : GM kd sh rt bd Wp Inv M0 M) : OKo (runF call d ct f b Ev 466 (Zo + σ.2.2.2.2) L S M) P := by
  unfold xsegT at h
  cases hb : code b with
  | none => rw [hb] at h; cases h
  | some bl =>
    rw [hb] at h
    obtain ⟨t1, t2⟩ := hcode b bl hb
    obtain ⟨x, e1, e2, e3⟩ := ytim_some h
    obtain ⟨f1, rfl⟩ : ∃ f1, f = f1 + 1 := ⟨f - 1, by omega⟩
    have hk := xB_ok hC (c := x.1) (P := P) (B := G) (j := runF call d ct f1) (xj := xrunT kd sh bd code ans stp xc 400 []) (fun b' => xrunT_ok hC hcode hst 400 [] b' f1 x.1 G (List.prefix_refl _) (by omega) (fun rc hm => by cases hm)) t1 t2
    exact ks_use hk (σ := σ) e1 (Nat.le_refl _) (fun o h9 => ho o (by rw [e3]; exact h9)) (List.prefix_refl _) hS hM
end RUN3
