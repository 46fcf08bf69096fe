section
/-! runs of a piece of a method: from a station to the next -/
noncomputable def xrunT (kd : Nat → Nat) (sh : Nat → Sh) (bd : Nat → Int → Int × Int) (code : Nat → Option XBl) (ans : Nat → Option An) (stp : Nat → Option (SS → Bool)) (xc : XC) (xf : Nat) : List Rc → Nat → SS → SR := Nat.rec (motive := fun _ => List Rc → Nat → SS → SR) (fun _ _ _ => none) (fun _ ih hs b σ => match yrec hs b with
  | some rc => gdS (Bool.rec false (ybkv rc.2.2.1 rc.2.2.2 σ) (ybk0 kd rc.2.1 rc.2.2.1 (ylen rc.2.1.1) σ)) (some (0, []))
  | none => (match stp b with
    | some k => gdS (k σ) (some (0, []))
    | none => (match code b with
    | some bl => (match ans b with
      | some an => xhead kd an (ymatS kd sh bd an σ) (fun q => xB xc (ih ((b, ymatS kd sh bd an σ, an, q.2) :: hs)) bl.2 bl.1 q.1)
      | none => ytim 1 (xB xc (ih hs) bl.2 bl.1 σ))
    | none => none))) xf
section RUN3
variable {kd : Nat → Nat} {sh : Nat → Sh} {rt : Nat → Nat → Nat} {bd : Nat → Int → Int × Int} {Wp PR : Nat → Int → Bool} {Inv : Mem → Prop} {M0 : Mem} {Ev : Env9} {Zo : Nat}
theorem mul_lemF {m c f F : Nat} (h : (m + 1 + 1) * (c + 1) + F ≤ f) : ∃ f1, f = f1 + 1 ∧ c + F ≤ f1 ∧ (m + 1) * (c + 1) + F ≤ f1 - c := by
  have e : (m + 1 + 1) * (c + 1) = (m + 1) * (c + 1) + (c + 1) := Nat.succ_mul _ _
  exact ⟨f - 1, by omega, by omega, by omega⟩
theorem xrunT_ok {code : Nat → Option XBl} {ans : Nat → Option An} {call : Call} {xc : XC} (hC : CS kd sh rt bd Wp Inv M0 Ev call xc) {d : Nat} {ct : TrT Blk d} (hcode : ∀ b xl, code b = some xl → SBL kd sh rt bd Wp Inv M0 Ev Zo xl (tget d ct b)) {P : Res → Prop} {stp : Nat → Option (SS → Bool)} {F : Nat} {B0 : List Int} (hst : ∀ b k, stp b = some k → ∀ f', F ≤ f' → ∀ (σ : SS) (G : List Int) (L S : List AV) (M : Mem), k σ = true → B0 <+: G → Sat kd G σ L S M → GM kd sh rt bd Wp Inv M0 M → OKo (runF call d ct f' b Ev 466 (Zo + σ.2.2.2.2) L S M) P) : ∀ (xf : Nat) (hs : List Rc) (b : Nat) (f c : Nat) (B : List Int), B0 <+: B → c + F ≤ f → HS kd sh rt bd Wp Inv M0 Ev Zo (runF call d ct) hs f c B P → KS kd sh rt bd Wp Inv M0 Ev Zo B c P (runF call d ct f b) (xrunT kd sh bd code ans stp xc xf hs b) := by
  intro xf
  induction xf with
  | zero => intro hs b f c B _ _ _ σ c' os h; cases h
  | succ xf ih =>
    intro hs b f c B hB0 hcf hHS σ c' os h hc ho G L S M hB hS hM
    have h : (match yrec hs b with
      | some rc => gdS (Bool.rec false (ybkv rc.2.2.1 rc.2.2.2 σ) (ybk0 kd rc.2.1 rc.2.2.1 (ylen rc.2.1.1) σ)) (some (0, []))
      | none => (match stp b with
        | some k => gdS (k σ) (some (0, []))
        | none => (match code b with
        | some bl => (match ans b with
          | some an => xhead kd an (ymatS kd sh bd an σ) (fun q => xB xc (xrunT kd sh bd code ans stp xc xf ((b, ymatS kd sh bd an σ, an, q.2) :: hs)) bl.2 bl.1 q.1)
          | none => ytim 1 (xB xc (xrunT kd sh bd code ans stp xc xf hs) bl.2 bl.1 σ))
        | none => none)) : SR) = some (c', os) := h
    cases hr : yrec hs b with
    | some rc =>
      rw [hr] at h
      obtain ⟨h1, h2⟩ := gdS_some h
      obtain ⟨h3, h4⟩ := band h1
      obtain ⟨m1, m2⟩ := yrec_mem hr
      obtain ⟨G0, v0, q1, q2, q3, q4⟩ := hHS rc m1
      have e0 : ylen rc.2.1.1 = G0.length := by rw [ylen_eq, q2.1]
      rw [e0] at h3
      obtain ⟨k1, k2, k3, q, bb, v, k4, k5, k6⟩ := ybk0_ok (q1.trans hB) q2 hS h3
      have k7 := ybkv_ok h4 k4 k5 (pre_at hB q3) k6
      rw [k1, k2, ← m2]
      exact q4 f (by omega) (Nat.le_refl _) L M v k3 k6 k7 hM
    | none =>
      rw [hr] at h
      rcases hq : stp b with _ | kq
      rotate_left
      · rw [hq] at h
        obtain ⟨h1, h2⟩ := gdS_some h
        exact hst b kq hq f (by omega) σ G L S M h1 (hB0.trans hB) hS hM
      rw [hq] at h
      cases hb : code b with
      | none => rw [hb] at h; cases h
      | some bl =>
        rw [hb] at h
        obtain ⟨t1, t2⟩ := hcode b bl hb
        cases ha : ans b with
        | none =>
          rw [ha] at h
          obtain ⟨x, e1, e2, e3⟩ := ytim_some h
          have e2 : c' = 1 * (x.1 + 1) := e2
          have e3 : os = x.2 := e3
          obtain ⟨f1, rfl⟩ : ∃ f1, f = f1 + 1 := ⟨f - 1, by omega⟩
          have hk := xB_ok hC (c := x.1) (P := P) (B := B) (j := runF call d ct f1) (xj := xrunT kd sh bd code ans stp xc xf hs) (fun b' => ih hs b' f1 x.1 B hB0 (by omega) (hs_less hHS (by omega) (by omega) (List.prefix_refl _))) t1 t2
          exact ks_use hk (σ := σ) e1 (Nat.le_refl _) (fun o h9 => ho o (by rw [e3]; exact h9)) hB hS hM
        | some an =>
          rw [ha] at h
          obtain ⟨Gm, m1, m2, m3⟩ := ymat_ok hM.1 (l := an.2.1) (p := (σ.1, σ.2.2.2.1)) hS.1 hS.2.2.2
          have hS' : Sat kd Gm (ymatS kd sh bd an σ) L S M := ⟨m2, svs_mono m1 hS.2.1, svs_mono m1 hS.2.2.1, m3⟩
          have hB' := hB.trans m1
          have ez : (ymatS kd sh bd an σ).2.2.2.2 = σ.2.2.2.2 := rfl
          rw [← ez]
          have h : xhead kd an (ymatS kd sh bd an σ) (fun q => xB xc (xrunT kd sh bd code ans stp xc xf ((b, ymatS kd sh bd an σ, an, q.2) :: hs)) bl.2 bl.1 q.1) = some (c', os) := h
          clear hS hB m1 m2 m3 ez
          generalize ymatS kd sh bd an σ = σ at h hS'
          have hS := hS'
          have hB := hB'
          clear hS' hB'
          generalize Gm = G at hS hB
          obtain ⟨h1, h⟩ := gdS_some h
          cases hh : yhead kd σ an with
          | none => rw [hh] at h; cases h
          | some q =>
            rw [hh] at h
            obtain ⟨x, e1, e2, e3⟩ := ytim_some h
            have e2 : c' = (ymx an + 1) * (x.1 + 1) := e2
            have e3 : os = x.2 := e3
            have e0 : ylen σ.1 = G.length := by rw [ylen_eq, hS.1.1]
            rw [e0] at h1
            obtain ⟨k1, k2, k3, qq, bb, v, k4, k5, k6⟩ := ybk0_ok (List.prefix_refl G) hS.1 hS h1
            have main : ∀ m f', (m + 1) * (x.1 + 1) + F ≤ f' → HS kd sh rt bd Wp Inv M0 Ev Zo (runF call d ct) hs f' ((m + 1) * (x.1 + 1)) G P → ∀ (L : List AV) (M : Mem) (v : Int), PrHd kd G σ an L M → Var kd G an L M v → yms an v ≤ m → GM kd sh rt bd Wp Inv M0 M → OKo (runF call d ct f' b Ev 466 (Zo + σ.2.2.2.2) L [] M) P := by
              intro m
              induction m with
              | zero =>
                intro f' hf hH L M v p1 p2 p3 p4
                obtain ⟨Gh, g1, g2, g3⟩ := yhead_ok hh p1
                obtain ⟨f1, rfl⟩ : ∃ f1, f' = f1 + 1 := ⟨f' - 1, by omega⟩
                have hk := xB_ok hC (c := x.1) (P := P) (B := Gh) (j := runF call d ct f1) (xj := xrunT kd sh bd code ans stp xc xf ((b, σ, an, q.2) :: hs)) (fun b' => ih _ b' f1 x.1 Gh (hB0.trans (hB.trans g1)) (by omega) (by
                  intro rc hm
                  rcases List.mem_cons.mp hm with e | e
                  · subst e
                    exact ⟨G, v, g1, hS.1, g3 v p2, fun f2 _ _ L2 M2 v2 _ _ w3 _ => by have w3 : yms an v2 < yms an v := w3; omega⟩
                  · exact hs_less hH (f2 := f1) (c2 := x.1) (by omega) (by omega) g1 rc e)) t1 t2
                have e9 : q.1.2.2.2.2 = σ.2.2.2.2 := by
                  unfold yhead at hh
                  cases hs9 : σ.2.2.1 with
                  | cons _ _ => rw [hs9] at hh; cases hh
                  | nil =>
                    rw [hs9] at hh
                    simp only at hh
                    cases h8 : yhS an.2.2.2.1 (yhH an.2.1 ((yhL an.1 (σ.1, ypreL an.1 an.2.2.2.2.2.2 σ.2.1)).1, ypreH kd an σ.1 σ.2.2.2.1)).2 (yhH an.2.1 ((yhL an.1 (σ.1, ypreL an.1 an.2.2.2.2.2.2 σ.2.1)).1, ypreH kd an σ.1 σ.2.2.2.1)).1 with
                    | none => rw [h8] at hh; cases hh
                    | some E9 => rw [h8] at hh; cases hh; rfl
                have := ks_use hk (σ := q.1) e1 (Nat.le_refl _) (fun o h9 => outP_up (hB.trans g1) (ho o (by rw [e3]; exact h9))) (List.prefix_refl _) g2 p4
                rw [e9] at this
                exact this
              | succ m ihm =>
                intro f' hf hH L M v p1 p2 p3 p4
                obtain ⟨Gh, g1, g2, g3⟩ := yhead_ok hh p1
                obtain ⟨f1, rfl, f2, f3⟩ := mul_lemF hf
                have em : (m + 1 + 1) * (x.1 + 1) = (m + 1) * (x.1 + 1) + (x.1 + 1) := Nat.succ_mul _ _
                have hk := xB_ok hC (c := x.1) (P := P) (B := Gh) (j := runF call d ct f1) (xj := xrunT kd sh bd code ans stp xc xf ((b, σ, an, q.2) :: hs)) (fun b' => ih _ b' f1 x.1 Gh (hB0.trans (hB.trans g1)) f2 (by
                  intro rc hm
                  rcases List.mem_cons.mp hm with e | e
                  · subst e
                    exact ⟨G, v, g1, hS.1, g3 v p2, fun f4 w1 w2 L2 M2 v2 u1 u2 u3 u4 => ihm f4 (by omega) (hs_less hH (f2 := f4) (c2 := (m + 1) * (x.1 + 1)) (by omega) (by omega) (List.prefix_refl _)) L2 M2 v2 u1 u2 (by have u3 : yms an v2 < yms an v := u3; omega) u4⟩
                  · exact hs_less hH (f2 := f1) (c2 := x.1) (by omega) (by omega) g1 rc e)) t1 t2
                have e9 : q.1.2.2.2.2 = σ.2.2.2.2 := by
                  unfold yhead at hh
                  cases hs9 : σ.2.2.1 with
                  | cons _ _ => rw [hs9] at hh; cases hh
                  | nil =>
                    rw [hs9] at hh
                    simp only at hh
                    cases h8 : yhS an.2.2.2.1 (yhH an.2.1 ((yhL an.1 (σ.1, ypreL an.1 an.2.2.2.2.2.2 σ.2.1)).1, ypreH kd an σ.1 σ.2.2.2.1)).2 (yhH an.2.1 ((yhL an.1 (σ.1, ypreL an.1 an.2.2.2.2.2.2 σ.2.1)).1, ypreH kd an σ.1 σ.2.2.2.1)).1 with
                    | none => rw [h8] at hh; cases hh
                    | some E9 => rw [h8] at hh; cases hh; rfl
                have := ks_use hk (σ := q.1) e1 (Nat.le_refl _) (fun o h9 => outP_up (hB.trans g1) (ho o (by rw [e3]; exact h9))) (List.prefix_refl _) g2 p4
                rw [e9] at this
                exact this
            rw [k1]
            exact main (ymx an) f (by omega) (hs_less hHS (Nat.le_refl _) (by omega) hB) L M v k3 k6 (yms_le k6) hM
/-- from a block on, to ends and stations -/
noncomputable def xsegT (kd : Nat → Nat) (sh : Nat → Sh) (bd : Nat → Int → Int × Int) (code : Nat → Option XBl) (ans : Nat → Option An) (stp : Nat → Option (SS → Bool)) (xc : XC) (b : Nat) (σ : SS) : SR := match code b with
  | some bl => ytim 1 (xB xc (xrunT kd sh bd code ans stp xc 400 []) bl.2 bl.1 σ)
  | none => none
theorem xsegT_ok {code : Nat → Option XBl} {ans : Nat → Option An} {call : Call} {xc : XC} (hC : CS kd sh rt bd Wp Inv M0 Ev call xc) {d : Nat} {ct : TrT Blk d} (hcode : ∀ b xl, code b = some xl → SBL kd sh rt bd Wp Inv M0 Ev Zo xl (tget d ct b)) {P : Res → Prop} {stp : Nat → Option (SS → Bool)} {F : Nat} {G : List Int} (hst : ∀ b k, stp b = some k → ∀ f', F ≤ f' → ∀ (σ : SS) (G' : List Int) (L S : List AV) (M : Mem), k σ = true → G <+: G' → Sat kd G' σ L S M → GM kd sh rt bd Wp Inv M0 M → OKo (runF call d ct f' b Ev 466 (Zo + σ.2.2.2.2) L S M) P) {b f : Nat} {σ : SS} {r : Nat × List Out} (h : xsegT kd sh bd code ans stp xc b σ = some r) (hf : r.1 + F ≤ f) {L S : List AV} {M : Mem} (ho : ∀ o ∈ r.2, OutP kd sh rt bd Wp Inv M0 Ev G P o) (hS : Sat kd G σ L S M) (hM : GM kd sh rt bd Wp Inv M0 M) : OKo (runF call d ct f b Ev 466 (Zo + σ.2.2.2.2) L S M) P := by
  unfold xsegT at h
  cases hb : code b with
  | none => rw [hb] at h; cases h
  | some bl =>
    rw [hb] at h
    obtain ⟨t1, t2⟩ := hcode b bl hb
    obtain ⟨x, e1, e2, e3⟩ := ytim_some h
    obtain ⟨f1, rfl⟩ : ∃ f1, f = f1 + 1 := ⟨f - 1, by omega⟩
    have hk := xB_ok hC (c := x.1) (P := P) (B := G) (j := runF call d ct f1) (xj := xrunT kd sh bd code ans stp xc 400 []) (fun b' => xrunT_ok hC hcode hst 400 [] b' f1 x.1 G (List.prefix_refl _) (by omega) (fun rc hm => by cases hm)) t1 t2
    exact ks_use hk (σ := σ) e1 (Nat.le_refl _) (fun o h9 => ho o (by rw [e3]; exact h9)) (List.prefix_refl _) hS hM
end RUN3
end
section
/-! stations: what holds at a block; pieces of a method between them -/
/-- the locals (none: anything but a long), facts, sums -/
abbrev SPt : Type := List (Option APt) × List Fct × List Sct
section STA
variable {kd : Nat → Nat} {sh : Nat → Sh} {rt : Nat → Nat → Nat} {bd : Nat → Int → Int × Int} {un : Nat → Bool} {Wp PR : Nat → Int → Bool} {Inv : Mem → Prop} {M0 : Mem} {Ev : Env9}
def lOK (kd : Nat → Nat) : List (Option APt) → List AV → Prop
  | [], [] => True
  | p :: l, v :: w => (match p with | none => isC2 v = false | some p => aOK kd p v) ∧ lOK kd l w
  | _, _ => False
def SpOK (kd : Nat → Nat) (p : SPt) (L : List AV) (M : Mem) : Prop := lOK kd p.1 L ∧ PrFa kd [] p.2.1 M ∧ PrSu kd [] p.2.2 M
noncomputable def ylA1 (kd : Nat → Nat) (E : YE) (p : Option APt) (a : SV) : Bool := match p with | none => snot (sC2 a) | some p => ymA kd E p a
noncomputable def ylA (kd : Nat → Nat) (E : YE) (l : List (Option APt)) : List SV → Bool := List.rec (motive := fun _ => List SV → Bool) (fun m => match m with | [] => true | _ => false) (fun p _ ih m => match m with | a :: m => Bool.rec false (ih m) (ylA1 kd E p a) | [] => false) l
theorem ylA_ok {G : List Int} {E : YE} (hE : yenv G E) : ∀ {l : List (Option APt)} {m : List SV} {w : List AV}, ylA kd E l m = true → svs kd G m w → lOK kd l w := by
  intro l
  induction l with
  | nil =>
    intro m w h hm
    cases m with
    | nil => obtain rfl := svs_nil hm; trivial
    | cons _ _ => cases h
  | cons p l ih =>
    intro m w h hm
    cases m with
    | nil => cases h
    | cons a m =>
      obtain ⟨h1, h2⟩ := band (show (Bool.rec false (ylA kd E l m) (ylA1 kd E p a) : Bool) = true from h)
      obtain ⟨v, w', rfl, g1, g2⟩ := svs_cons hm
      refine ⟨?_, ih h2 g2⟩
      cases p with
      | none => show isC2 v = false; rw [sC2_ok g1]; exact snot_t h1
      | some p => exact ymA_ok hE h1 g1
/-- a state is as the station wants it -/
noncomputable def ysp (kd : Nat → Nat) (sh : Nat → Sh) (bd : Nat → Int → Int × Int) (p : SPt) (σ : SS) : Bool := match σ.2.2.1 with
  | [] => Bool.rec false (Bool.rec false (Bool.rec false (yckS 0 (ymat kd sh bd p.2.1 (σ.1, σ.2.2.2.1)).1 (ymat kd sh bd p.2.1 (σ.1, σ.2.2.2.1)).2 p.2.2) (yckF 0 (ymat kd sh bd p.2.1 (σ.1, σ.2.2.2.1)).1 (ymat kd sh bd p.2.1 (σ.1, σ.2.2.2.1)).2 p.2.1)) (ylA kd σ.1 p.1 σ.2.1)) (Nat.beq σ.2.2.2.2 0)
  | _ => false
theorem ysp_ok {p : SPt} {σ : SS} (h : ysp kd sh bd p σ = true) {G : List Int} {L S : List AV} {M : Mem} (hS : Sat kd G σ L S M) (hT : TI kd sh rt bd M) : S = [] ∧ σ.2.2.2.2 = 0 ∧ SpOK kd p L M := by
  obtain ⟨E, Ls, Ss, H, z⟩ := σ
  cases Ss with
  | cons _ _ => cases h
  | nil =>
    obtain ⟨k1, h⟩ := band (show (Bool.rec false (Bool.rec false (Bool.rec false (yckS 0 (ymat kd sh bd p.2.1 (E, H)).1 (ymat kd sh bd p.2.1 (E, H)).2 p.2.2) (yckF 0 (ymat kd sh bd p.2.1 (E, H)).1 (ymat kd sh bd p.2.1 (E, H)).2 p.2.1)) (ylA kd E p.1 Ls)) (Nat.beq z 0) : Bool) = true from h)
    obtain ⟨k2, h⟩ := band h
    obtain ⟨k3, k4⟩ := band h
    obtain ⟨h1, h2, h3, h4⟩ := hS
    obtain ⟨Gm, m1, m2, m3⟩ := ymat_ok hT (l := p.2.1) (p := (E, H)) h1 h4
    have hp : ([] : List Int) <+: Gm := List.nil_prefix
    exact ⟨svs_nil h3, Nat.eq_of_beq_eq_true k1, ylA_ok h1 k2 h2, yckF_ok hp m2 m3 k3, yckS_ok hp m2 m3 k4⟩
noncomputable def yspA (kd : Nat → Nat) (sh : Nat → Sh) (bd : Nat → Int → Int × Int) (σ : SS) (l : List SPt) : Bool := List.rec false (fun p _ ih => Bool.rec ih true (ysp kd sh bd p σ)) l
theorem yspA_ok {σ : SS} {G : List Int} {L S : List AV} {M : Mem} (hS : Sat kd G σ L S M) (hT : TI kd sh rt bd M) : ∀ {l : List SPt}, yspA kd sh bd σ l = true → S = [] ∧ σ.2.2.2.2 = 0 ∧ ∃ p ∈ l, SpOK kd p L M := by
  intro l
  induction l with
  | nil => intro h; cases h
  | cons p l ih =>
    intro h
    have h : (Bool.rec (yspA kd sh bd σ l) true (ysp kd sh bd p σ) : Bool) = true := h
    cases hb : ysp kd sh bd p σ with
    | true =>
      obtain ⟨h1, h2, h3⟩ := ysp_ok hb hS hT
      exact ⟨h1, h2, p, List.mem_cons_self, h3⟩
    | false =>
      rw [hb] at h
      obtain ⟨h1, h2, q, h3, h4⟩ := ih h
      exact ⟨h1, h2, q, List.mem_cons_of_mem _ h3, h4⟩
/-- the state that a station stands for: what is one number stands as that number -/
noncomputable def yfr9 (E : YE) (lo hi : Int) : YE × Aff := Bool.rec (yfresh E lo hi) (E, (0, 0, lo)) (ieq lo hi)
theorem yfr9_ok {G : List Int} {E : YE} (hE : yenv G E) {lo hi x : Int} (h1 : lo ≤ x) (h2 : x ≤ hi) : ∃ G', G <+: G' ∧ yenv G' (yfr9 E lo hi).1 ∧ yev G' (yfr9 E lo hi).2 = some x := by
  unfold yfr9
  cases h : ieq lo hi with
  | true =>
    have e := ieq_iff.mp h
    exact ⟨G, List.prefix_refl _, hE, by show yev G (0, 0, lo) = some x; rw [yev_c]; congr 1; omega⟩
  | false =>
    obtain ⟨f1, f2⟩ := yfresh_ok hE h1 h2
    exact ⟨_, List.prefix_append _ _, f1, f2⟩
noncomputable def yarg9 (E : YE) (p : APt) : YE × SV := match p.1 with
  | 0 => ((yfr9 E p.2.1 p.2.2).1, sI (yfr9 E p.2.1 p.2.2).2)
  | _ => yarg E p
theorem yarg9_ok {G : List Int} {E : YE} (hE : yenv G E) {p : APt} {v : AV} (h : aOK kd p v) : ∃ G', G <+: G' ∧ yenv G' (yarg9 E p).1 ∧ sv kd G' (yarg9 E p).2 v := by
  obtain ⟨c, lo, hi⟩ := p
  match c, h with
  | 0, h =>
    obtain ⟨x, e1, e2, e3, e4⟩ := h
    obtain ⟨G', f0, f1, f2⟩ := yfr9_ok hE e3 e4
    exact ⟨G', f0, f1, x, e1, e2, f2⟩
  | c + 1, h => exact yarg_ok hE h
noncomputable def ysL1 (E : YE) (p : Option APt) : YE × SV := match p with | none => (E, sT 0) | some p => yarg9 E p
noncomputable def ysL (l : List (Option APt)) : YE → YE × List SV := List.rec (motive := fun _ => YE → YE × List SV) (fun E => (E, [])) (fun p _ ih E => ((ih (ysL1 E p).1).1, (ysL1 E p).2 :: (ih (ysL1 E p).1).2)) l
theorem ysL_ok : ∀ {l : List (Option APt)} {G : List Int} {E : YE} {vs : List AV}, yenv G E → lOK kd l vs → ∃ G', G <+: G' ∧ yenv G' (ysL l E).1 ∧ svs kd G' (ysL l E).2 vs := by
  intro l
  induction l with
  | nil =>
    intro G E vs hE h
    cases vs with
    | nil => exact ⟨G, List.prefix_refl _, hE, trivial⟩
    | cons _ _ => exact h.elim
  | cons p l ih =>
    intro G E vs hE h
    cases vs with
    | nil => exact h.elim
    | cons v vs =>
      have h1 : ∃ G', G <+: G' ∧ yenv G' (ysL1 E p).1 ∧ sv kd G' (ysL1 E p).2 v := by
        cases p with
        | none => exact ⟨G, List.prefix_refl _, hE, h.1⟩
        | some p => exact yarg9_ok hE h.1
      obtain ⟨G1, g1, g2, g3⟩ := h1
      obtain ⟨G2, k1, k2, k3⟩ := ih g2 h.2
      exact ⟨G2, g1.trans k1, k2, sv_mono k1 g3, k3⟩
noncomputable def yhP (l : List Fct) : YE × OV → YE × OV := List.rec (motive := fun _ => YE × OV → YE × OV) (fun p => p) (fun a _ ih p => ih ((yfr9 p.1 a.2.1 a.2.2).1, (a.1, (yfr9 p.1 a.2.1 a.2.2).2) :: p.2)) l
theorem yhP_ok {M : Mem} : ∀ {l : List Fct} {G : List Int} {p : YE × OV}, yenv G p.1 → ovl kd G p.2 M → PrFa kd [] l M → ∃ G', G <+: G' ∧ yenv G' (yhP l p).1 ∧ ovl kd G' (yhP l p).2 M := by
  intro l
  induction l with
  | nil => intro G p h1 h2 _; exact ⟨G, List.prefix_refl _, h1, h2⟩
  | cons a l ih =>
    intro G p h1 h2 h3
    obtain ⟨k, i, e1, e2, e3⟩ := h3 a List.mem_cons_self
    obtain ⟨G1, g1, g2, g3⟩ := yfr9_ok h1 e2 e3
    have e1 := pl_mono (G' := G1) List.nil_prefix e1
    obtain ⟨G2, k1, k2, k3⟩ := ih (G := G1) (p := ((yfr9 p.1 a.2.1 a.2.2).1, (a.1, (yfr9 p.1 a.2.1 a.2.2).2) :: p.2)) g2 (fun h hm => by
      rcases List.mem_cons.mp hm with e | e
      · subst e
        exact ⟨k, i, e1.1, e1.2, g3⟩
      · exact ovl_mono g1 h2 h e) (fun b hb => h3 b (List.mem_cons_of_mem _ hb))
    exact ⟨G2, g1.trans k1, k2, k3⟩
noncomputable def yspS (p : SPt) : Option SS := match yhS p.2.2 (yhP p.2.1 ((ysL p.1 []).1, [])).2 (yhP p.2.1 ((ysL p.1 []).1, [])).1 with
  | some E => some (E, (ysL p.1 []).2, [], (yhP p.2.1 ((ysL p.1 []).1, [])).2, 0)
  | none => none
theorem yspS_ok {p : SPt} {L : List AV} {M : Mem} (h : SpOK kd p L M) : ∃ σ G, yspS p = some σ ∧ Sat kd G σ L [] M ∧ σ.2.2.2.2 = 0 := by
  obtain ⟨h1, h2, h3⟩ := h
  have hE0 : yenv [] ([] : YE) := ⟨rfl, fun g e hg => by simp at hg⟩
  obtain ⟨G1, g1, g2, g3⟩ := ysL_ok hE0 h1
  obtain ⟨G2, k1, k2, k3⟩ := yhP_ok (p := ((ysL p.1 []).1, [])) (M := M) g2 (fun q hq => by cases hq) h2
  obtain ⟨E, G3, u1, u2, u3⟩ := yhS_ok k2 k3 (prSu_up h3)
  refine ⟨(E, (ysL p.1 []).2, [], (yhP p.2.1 ((ysL p.1 []).1, [])).2, 0), G3, by unfold yspS; rw [u1], ⟨u3, svs_mono (k1.trans u2) g3, trivial, ovl_mono u2 k3⟩, rfl⟩
/-- block by block what is wanted there -/
noncomputable def stpL (kd : Nat → Nat) (sh : Nat → Sh) (bd : Nat → Int → Int × Int) (sts : List (Nat × List SPt)) (b : Nat) : Option (SS → Bool) := List.rec none (fun q _ ih => Bool.rec ih (some (fun σ => yspA kd sh bd σ q.2)) (Nat.beq q.1 b)) sts
theorem stpL_mem {b : Nat} {k : SS → Bool} : ∀ {sts : List (Nat × List SPt)}, stpL kd sh bd sts b = some k → ∃ q ∈ sts, q.1 = b ∧ k = fun σ => yspA kd sh bd σ q.2 := by
  intro sts
  induction sts with
  | nil => intro h; cases h
  | cons q sts ih =>
    intro h
    have h : (Bool.rec (stpL kd sh bd sts b) (some (fun σ => yspA kd sh bd σ q.2)) (Nat.beq q.1 b) : Option (SS → Bool)) = some k := h
    cases hb : Nat.beq q.1 b with
    | true => rw [hb] at h; cases h; exact ⟨q, List.mem_cons_self, Nat.eq_of_beq_eq_true hb, rfl⟩
    | false =>
      rw [hb] at h
      obtain ⟨q', h1, h2⟩ := ih h
      exact ⟨q', List.mem_cons_of_mem _ h1, h2⟩
/-- from here on all is well -/
def StK (kd : Nat → Nat) (sh : Nat → Sh) (rt : Nat → Nat → Nat) (bd : Nat → Int → Int × Int) (Wp : Nat → Int → Bool) (Inv : Mem → Prop) (M0 : Mem) (Ev : Env9) (call : Call) (d : Nat) (ct : TrT Blk d) (F b : Nat) (Q : List AV → Mem → Prop) (P : Res → Prop) : Prop := ∀ f, F ≤ f → ∀ (L : List AV) (M : Mem), Q L M → GM kd sh rt bd Wp Inv M0 M → OKo (runF call d ct f b Ev 466 0 L [] M) P
noncomputable def xseg (kd : Nat → Nat) (sh : Nat → Sh) (rt : Nat → Nat → Nat) (bd : Nat → Int → Int × Int) (un : Nat → Bool) (Wp PR : Nat → Int → Bool) (MT : Nat → Option MDT) (CT : Nat → List Ctr) (D : Nat) (md : MDT) (sts : List (Nat × List SPt)) (posts : List Pst) (C b : Nat) (p : SPt) : Bool := match yspS p with
  | some σ => (match xsegT kd sh bd (xcode kd sh rt bd un Wp PR md.2.1) (xanL md.2.2) (stpL kd sh bd sts) (xM kd sh rt bd un Wp PR MT CT D) b σ with
    | some r => Bool.rec false (yallo posts r.2) (Nat.ble r.1 C)
    | none => false)
  | none => true
def MdC (md : MDT) (d : Nat) (ct : TrT Blk d) : Prop := ∀ b q, yat md.2.1 b = some q → tget d ct b = dnB 0 q
theorem xseg_ok (hu : ∀ κ v, un κ = true → bd κ v = bd κ 0) (hI : Hang kd PR Inv) {MT : Nat → Option MDT} {CT : Nat → List Ctr} {D : Nat} {call : Call} (hC : CS kd sh rt bd Wp Inv M0 Ev call (xM kd sh rt bd un Wp PR MT CT D)) {md : MDT} {d : Nat} {ct : TrT Blk d} (hmd : MdC md d ct) {sts : List (Nat × List SPt)} {posts : List Pst} {C F b : Nat} {p : SPt} {P : Res → Prop} (h : xseg kd sh rt bd un Wp PR MT CT D md sts posts C b p = true)
    (hst : ∀ q ∈ sts, ∀ p' ∈ q.2, StK kd sh rt bd Wp Inv M0 Ev call d ct F q.1 (SpOK kd p') P)
    (hP : ∀ r : Res, r.2.1 = Ev → r.2.2.2.2.2.2.1 = 466 → GM kd sh rt bd Wp Inv M0 r.2.2.2.2.2.1 → (∃ q ∈ posts, pOK kd q r) → P r) : StK kd sh rt bd Wp Inv M0 Ev call d ct (C + F) b (SpOK kd p) P := by
  intro f hf L M hQ hM
  obtain ⟨σ, G, e1, e2, e3⟩ := yspS_ok hQ
  unfold xseg at h
  rw [e1] at h
  cases hr : xsegT kd sh bd (xcode kd sh rt bd un Wp PR md.2.1) (xanL md.2.2) (stpL kd sh bd sts) (xM kd sh rt bd un Wp PR MT CT D) b σ with
  | none => simp only [hr] at h; cases h
  | some r =>
    simp only [hr] at h
    obtain ⟨k1, k2⟩ := band h
    have k1 := Nat.le_of_ble_eq_true k1
    have key := xsegT_ok (Zo := 0) (F := F) (P := P) hC (ct := ct) (fun b xl hx => by
      unfold xcode at hx
      cases hq : yat md.2.1 b with
      | none => rw [hq] at hx; cases hx
      | some q =>
        rw [hq] at hx
        cases hx
        rw [hmd b q hq]
        exact xiB_ok (Z := 0) hu hI (Nat.le_refl _) q) (stp := stpL kd sh bd sts) (fun b' k hk f' hf' σ' G' L' S' M' hk1 _ hS' hM' => by
      obtain ⟨q, m1, m2, m3⟩ := stpL_mem hk
      subst m3
      obtain ⟨s1, s2, p', s3, s4⟩ := yspA_ok hS' hM'.1 hk1
      rw [s1, s2, ← m2]
      exact hst q m1 p' s3 f' hf' L' M' s4 hM') hr (f := f) (by omega) (fun o hm G1 r1 q1 q2 q3 q4 q5 q6 q7 q8 => by
      obtain ⟨p1, p2, p3⟩ := yanyp_mem (yallo_mem k2 o hm)
      exact hP r1 q6 q7 q4 ⟨p1, p2, ypm_ok p3 q2 q3 q5 q8⟩) e2 hM
    rw [e3] at key
    exact key
theorem aOK_c2 {p : APt} {v : AV} (h : aOK kd p v) : isC2 v = Nat.beq p.1 3 := by
  obtain ⟨c, lo, hi⟩ := p
  match c, h with
  | 0, h => obtain ⟨x, e, _⟩ := h; subst e; rfl
  | 1, h => obtain ⟨e, _⟩ := h; rw [show v = vR lo.toNat from e]; rfl
  | 2, h => obtain ⟨k, e, _⟩ := h; subst e; rfl
  | 3, h => obtain ⟨x, e⟩ := h; subst e; rfl
  | c + 4, h => have e : v = vW lo.toNat := h; subst e; rfl
noncomputable def spF (l : List APt) : List (Option APt) := List.rec [] (fun p _ ih => Bool.rec (some p :: ih) (some p :: none :: ih) (Nat.beq p.1 3)) l
noncomputable def spR (n : Nat) : List (Option APt) := Nat.rec [] (fun _ ih => none :: ih) n
/-- the locals at a method's first block -/
noncomputable def spI (n : Nat) (l : List APt) : List (Option APt) := spF l ++ spR (n - ylen (spF l))
theorem lOK_app : ∀ {l m : List (Option APt)} {v w : List AV}, lOK kd l v → lOK kd m w → lOK kd (l ++ m) (v ++ w) := by
  intro l
  induction l with
  | nil => intro m v w h1 h2; cases v with | nil => exact h2 | cons _ _ => exact h1.elim
  | cons p l ih => intro m v w h1 h2; cases v with | nil => exact h1.elim | cons a v => exact ⟨h1.1, ih h1.2 h2⟩
theorem lOK_len : ∀ {l : List (Option APt)} {v : List AV}, lOK kd l v → l.length = v.length := by
  intro l
  induction l with
  | nil => intro v h; cases v with | nil => rfl | cons _ _ => exact h.elim
  | cons p l ih => intro v h; cases v with | nil => exact h.elim | cons a v => rw [List.length_cons, List.length_cons, ih h.2]
theorem spF_ok : ∀ {l : List APt} {vs : List AV}, asOK kd l vs → lOK kd (spF l) (flatL vs) := by
  intro l
  induction l with
  | nil => intro vs h; cases vs with | nil => trivial | cons _ _ => exact h.elim
  | cons p l ih =>
    intro vs h
    cases vs with
    | nil => exact h.elim
    | cons v vs =>
      show lOK kd (Bool.rec (some p :: spF l) (some p :: none :: spF l) (Nat.beq p.1 3)) (Bool.rec (v :: flatL vs) (v :: vW 3 :: flatL vs) (isC2 v))
      rw [aOK_c2 h.1]
      cases Nat.beq p.1 3 with
      | false => exact ⟨h.1, ih h.2⟩
      | true => exact ⟨h.1, rfl, ih h.2⟩
theorem spR_ok : ∀ n, lOK kd (spR n) (repA (vW 3) n) := by
  intro n
  induction n with
  | zero => trivial
  | succ n ih => exact ⟨rfl, ih⟩
theorem spI_ok {n : Nat} {l : List APt} {vs : List AV} (h : asOK kd l vs) : lOK kd (spI n l) (iniL n vs) := by
  have h1 := spF_ok h
  have e : ylen (spF l) = (flatL vs).length := by rw [ylen_eq, lOK_len h1]
  show lOK kd (spF l ++ spR (n - ylen (spF l))) (flatL vs ++ repA (vW 3) (n - (flatL vs).length))
  rw [e]
  exact lOK_app h1 (spR_ok _)
/-- what a contract says of an end, the memory before being M0 -/
def EnP (kd : Nat → Nat) (sh : Nat → Sh) (rt : Nat → Nat → Nat) (bd : Nat → Int → Int × Int) (Inv : Mem → Prop) (Ev : Env9) (ct : Ctr) (M0 : Mem) (r : Res) : Prop := r.2.1 = Ev ∧ r.2.2.2.2.2.2.1 = 466 ∧ TI kd sh rt bd r.2.2.2.2.2.1 ∧ Inv r.2.2.2.2.2.1 ∧ (∀ k : Nat, k < 466 → ∀ i : Nat, inW ct.2.2.2.1 (kd k) i = false → rdI r.2.2.2.2.2.1 k i = rdI M0 k i) ∧ ∃ p ∈ ct.2.2.2.2, pOK kd p r
theorem ctr_st {bo : Bo9} {R : Nat → Call} (hR : ∀ k y E n as M, R (k + 1) y E n as M = bo y (R k) E n as M) {y : Nat} {md : MDT} (hmd : MDOK bo y md) {ct : Ctr} {k : Nat} (hl : ylen (yflat (yargs ct.1 []).2) ≤ md.1)
    (H : ∀ (d : Nat) (c : TrT Blk d), MdC md d c → ∀ M0, Inv M0 → PrFa kd [] ct.2.1 M0 → StK kd sh rt bd (inW ct.2.2.2.1) Inv M0 Ev (R k) d c 1000000000000 0 (SpOK kd (spI md.1 ct.1, ct.2.1, ct.2.2.1)) (EnP kd sh rt bd Inv Ev ct M0)) : CtrOK kd sh rt bd Inv Ev (R (k + 1)) y ct := by
  intro vs M h1 h2 h3 hT hInv
  obtain ⟨d, c, e1, e2⟩ := hmd
  rw [hR, e2]
  have hE0 : yenv [] ([] : YE) := ⟨rfl, fun g e hg => by simp at hg⟩
  obtain ⟨G1, g1, g2, g3⟩ := yargs_ok hE0 h1
  have e : ylen (yflat (yargs ct.1 []).2) = (flatL vs).length := by rw [ylen_eq, svs_len (yflat_ok g3)]
  rw [← e, Nat.ble_eq_true_of_le hl]
  exact H d c e1 M hInv h2 1000000000000 (Nat.le_refl _) (iniL md.1 vs) M ⟨spI_ok h1, h2, h3⟩ ⟨hT, hInv, fun k' _ i' _ => rfl⟩
/-- a contract out of one piece -/
theorem ctr_seg (hu : ∀ κ v, un κ = true → bd κ v = bd κ 0) (hI : Hang kd PR Inv) {bo : Bo9} {R : Nat → Call} (hR : ∀ k y E n as M, R (k + 1) y E n as M = bo y (R k) E n as M) {y : Nat} {md : MDT} (hmd : MDOK bo y md) {ct : Ctr} {k : Nat} {MT : Nat → Option MDT} {CT : Nat → List Ctr} {D C : Nat} (hC : ∀ M0, CS kd sh rt bd (inW ct.2.2.2.1) Inv M0 Ev (R k) (xM kd sh rt bd un (inW ct.2.2.2.1) PR MT CT D)) (hl : ylen (yflat (yargs ct.1 []).2) ≤ md.1) (h : xseg kd sh rt bd un (inW ct.2.2.2.1) PR MT CT D md [] ct.2.2.2.2 C 0 (spI md.1 ct.1, ct.2.1, ct.2.2.1) = true) (hc : C ≤ 1000000000000) : CtrOK kd sh rt bd Inv Ev (R (k + 1)) y ct :=
  ctr_st hR hmd hl (fun d c hmC M0 _ _ f hf L M hQ hM => xseg_ok (C := C) (F := 0) hu hI (hC M0) hmC h (fun q q1 => by cases q1) (fun r r1 r2 r3 q => ⟨r1, r2, r3.1, r3.2.1, r3.2.2, q⟩) f (by omega) L M hQ hM)
end STA
end
section
/-! pieces whose stations tell a number by what stood somewhere at their start -/
abbrev Rl9 : Type := (Nat × Nat) × (Nat × Nat) × Int
noncomputable def yeqd (H H0 : OV) (l : List Rl9) : Bool := List.rec true (fun q _ ih => Bool.rec false ih (match yfd (.inl q.1.1) (0, 0, ((q.1.2 : Nat) : Int)) H, yfd (.inl q.2.1.1) (0, 0, ((q.2.1.2 : Nat) : Int)) H0 with | some x, some y => eAf x (y.1, y.2.1, y.2.2 + q.2.2) | _, _ => false)) l
section REL9
variable {kd : Nat → Nat} {sh : Nat → Sh} {rt : Nat → Nat → Nat} {bd : Nat → Int → Int × Int} {un : Nat → Bool} {Wp PR : Nat → Int → Bool} {Inv : Mem → Prop} {Ev : Env9}
theorem ov_at {G : List Int} {H : OV} {M : Mem} (hH : ovl kd G H M) {c i : Nat} {x : Aff} (h : yfd (.inl c) (0, 0, ((i : Nat) : Int)) H = some x) : yev G x = some (rdI M c i) := by
  obtain ⟨k, j, ⟨_, h1⟩, h2, h3⟩ := hH _ (yfd_mem h)
  have e1 : k = c := h1
  have h2 : yev G (0, 0, ((i : Nat) : Int)) = some (j : Int) := h2
  rw [yev_c] at h2
  have e2 : i = j := by have := Option.some.inj h2; omega
  rw [← e1, e2]
  exact h3
theorem yev_off {G : List Int} {y : Aff} {v δ : Int} (h : yev G y = some v) : yev G (y.1, y.2.1, y.2.2 + δ) = some (v + δ) := by
  obtain ⟨g, c, o⟩ := y
  rcases yev_some h with ⟨h1, h2⟩ | ⟨h1, x, h2, h3⟩
  · have h1 : c = 0 := h1
    subst h1
    show yev G (g, 0, o + δ) = _
    rw [yev_c, h2]
  · rw [yev_g (q := (g, c, o + δ)) h1 h2]
    have h3 : v = c * x + o := h3
    congr 1
    show c * x + (o + δ) = v + δ
    omega
theorem yeqd_ok {G G1 : List Int} (hG : G <+: G1) {H H0 : OV} {M M0 : Mem} (hH : ovl kd G1 H M) (hH0 : ovl kd G H0 M0) : ∀ {l : List Rl9}, yeqd H H0 l = true → ∀ q ∈ l, rdI M q.1.1 q.1.2 = rdI M0 q.2.1.1 q.2.1.2 + q.2.2 := by
  intro l
  induction l with
  | nil => intro _ q hq; cases hq
  | cons a l ih =>
    intro h q hq
    obtain ⟨h1, h2⟩ := band (show (Bool.rec false (yeqd H H0 l) (match yfd (.inl a.1.1) (0, 0, ((a.1.2 : Nat) : Int)) H, yfd (.inl a.2.1.1) (0, 0, ((a.2.1.2 : Nat) : Int)) H0 with | some x, some y => eAf x (y.1, y.2.1, y.2.2 + a.2.2) | _, _ => false) : Bool) = true from h)
    rcases List.mem_cons.mp hq with e | e
    · subst e
      cases hx : yfd (.inl q.1.1) (0, 0, ((q.1.2 : Nat) : Int)) H with
      | none => simp only [hx] at h1; cases h1
      | some x =>
        cases hy : yfd (.inl q.2.1.1) (0, 0, ((q.2.1.2 : Nat) : Int)) H0 with
        | none => simp only [hx, hy] at h1; cases h1
        | some y =>
          simp only [hx, hy] at h1
          have e := eAf_eq h1
          have g1 := ov_at hH hx
          have g2 := yev_off (δ := q.2.2) (yev_mono hG (ov_at hH0 hy))
          rw [e, g2] at g1
          exact (Option.some.inj g1).symm
    · exact ih h2 q e
noncomputable def yspR (kd : Nat → Nat) (sh : Nat → Sh) (bd : Nat → Int → Int × Int) (H0 : OV) (σ : SS) (l : List (SPt × List Rl9)) : Bool := List.rec false (fun p _ ih => Bool.rec ih true (Bool.rec false (yeqd σ.2.2.2.1 H0 p.2) (ysp kd sh bd p.1 σ))) l
theorem yspR_mem {H0 : OV} {σ : SS} : ∀ {l : List (SPt × List Rl9)}, yspR kd sh bd H0 σ l = true → ∃ p ∈ l, ysp kd sh bd p.1 σ = true ∧ yeqd σ.2.2.2.1 H0 p.2 = true := by
  intro l
  induction l with
  | nil => intro h; cases h
  | cons p l ih =>
    intro h
    have h : (Bool.rec (yspR kd sh bd H0 σ l) true (Bool.rec false (yeqd σ.2.2.2.1 H0 p.2) (ysp kd sh bd p.1 σ)) : Bool) = true := h
    cases hb : (Bool.rec false (yeqd σ.2.2.2.1 H0 p.2) (ysp kd sh bd p.1 σ) : Bool) with
    | true => obtain ⟨h1, h2⟩ := band hb; exact ⟨p, List.mem_cons_self, h1, h2⟩
    | false => rw [hb] at h; obtain ⟨q, h1, h2⟩ := ih h; exact ⟨q, List.mem_cons_of_mem _ h1, h2⟩
noncomputable def stpR (kd : Nat → Nat) (sh : Nat → Sh) (bd : Nat → Int → Int × Int) (H0 : OV) (sts : List (Nat × List (SPt × List Rl9))) (b : Nat) : Option (SS → Bool) := List.rec none (fun q _ ih => Bool.rec ih (some (fun σ => yspR kd sh bd H0 σ q.2)) (Nat.beq q.1 b)) sts
theorem stpR_mem {H0 : OV} {b : Nat} {k : SS → Bool} : ∀ {sts : List (Nat × List (SPt × List Rl9))}, stpR kd sh bd H0 sts b = some k → ∃ q ∈ sts, q.1 = b ∧ k = fun σ => yspR kd sh bd H0 σ q.2 := by
  intro sts
  induction sts with
  | nil => intro h; cases h
  | cons q sts ih =>
    intro h
    have h : (Bool.rec (stpR kd sh bd H0 sts b) (some (fun σ => yspR kd sh bd H0 σ q.2)) (Nat.beq q.1 b) : Option (SS → Bool)) = some k := h
    cases hb : Nat.beq q.1 b with
    | true => rw [hb] at h; cases h; exact ⟨q, List.mem_cons_self, Nat.eq_of_beq_eq_true hb, rfl⟩
    | false =>
      rw [hb] at h
      obtain ⟨q', h1, h2⟩ := ih h
      exact ⟨q', List.mem_cons_of_mem _ h1, h2⟩
noncomputable def xsegR (kd : Nat → Nat) (sh : Nat → Sh) (rt : Nat → Nat → Nat) (bd : Nat → Int → Int × Int) (un : Nat → Bool) (Wp PR : Nat → Int → Bool) (MT : Nat → Option MDT) (CT : Nat → List Ctr) (D : Nat) (md : MDT) (sts : List (Nat × List (SPt × List Rl9))) (posts : List Pst) (C b : Nat) (p : SPt) : Bool := match yspS p with
  | some σ => (match xsegT kd sh bd (xcode kd sh rt bd un Wp PR md.2.1) (xanL md.2.2) (stpR kd sh bd σ.2.2.2.1 sts) (xM kd sh rt bd un Wp PR MT CT D) b σ with
    | some r => Bool.rec false (yallo posts r.2) (Nat.ble r.1 C)
    | none => false)
  | none => true
theorem segR (hu : ∀ κ v, un κ = true → bd κ v = bd κ 0) (hI : Hang kd PR Inv) {MT : Nat → Option MDT} {CT : Nat → List Ctr} {D : Nat} {call : Call} {L : List AV} {M : Mem} (hC : CS kd sh rt bd Wp Inv M Ev call (xM kd sh rt bd un Wp PR MT CT D)) {md : MDT} {d : Nat} {ct : TrT Blk d} (hmd : MdC md d ct) {sts : List (Nat × List (SPt × List Rl9))} {posts : List Pst} {C F b f : Nat} {p : SPt} {P : Res → Prop} (h : xsegR kd sh rt bd un Wp PR MT CT D md sts posts C b p = true) (hf : C + F ≤ f) (hQ : SpOK kd p L M) (hT : TI kd sh rt bd M) (hInv : Inv M)
    (hst : ∀ q ∈ sts, ∀ p' ∈ q.2, ∀ f', F ≤ f' → ∀ (L' : List AV) (M' : Mem), SpOK kd p'.1 L' M' → (∀ e ∈ p'.2, rdI M' e.1.1 e.1.2 = rdI M e.2.1.1 e.2.1.2 + e.2.2) → GM kd sh rt bd Wp Inv M M' → OKo (runF call d ct f' q.1 Ev 466 0 L' [] M') P)
    (hP : ∀ r : Res, r.2.1 = Ev → r.2.2.2.2.2.2.1 = 466 → GM kd sh rt bd Wp Inv M r.2.2.2.2.2.1 → (∃ q ∈ posts, pOK kd q r) → P r) : OKo (runF call d ct f b Ev 466 0 L [] M) P := by
  obtain ⟨σ, G, e1, e2, e3⟩ := yspS_ok hQ
  unfold xsegR at h
  rw [e1] at h
  cases hr : xsegT kd sh bd (xcode kd sh rt bd un Wp PR md.2.1) (xanL md.2.2) (stpR kd sh bd σ.2.2.2.1 sts) (xM kd sh rt bd un Wp PR MT CT D) b σ with
  | none => simp only [hr] at h; cases h
  | some r =>
    simp only [hr] at h
    obtain ⟨k1, k2⟩ := band h
    have k1 := Nat.le_of_ble_eq_true k1
    have key := xsegT_ok (Zo := 0) (F := F) (P := P) (G := G) hC (ct := ct) (fun b xl hx => by
      unfold xcode at hx
      cases hq : yat md.2.1 b with
      | none => rw [hq] at hx; cases hx
      | some q =>
        rw [hq] at hx
        cases hx
        rw [hmd b q hq]
        exact xiB_ok (Z := 0) hu hI (Nat.le_refl _) q) (stp := stpR kd sh bd σ.2.2.2.1 sts) (fun b' k hk f' hf' σ' G' L' S' M' hk1 hG hS' hM' => by
      obtain ⟨q, m1, m2, m3⟩ := stpR_mem hk
      subst m3
      obtain ⟨p', s3, s5, s6⟩ := yspR_mem hk1
      obtain ⟨s1, s2, s4⟩ := ysp_ok s5 hS' hM'.1
      rw [s1, s2, ← m2]
      exact hst q m1 p' s3 f' hf' L' M' s4 (yeqd_ok hG hS'.2.2.2 e2.2.2.2 s6) hM') hr (f := f) (by omega) (fun o hm G1 r1 q1 q2 q3 q4 q5 q6 q7 q8 => by
      obtain ⟨p1, p2, p3⟩ := yanyp_mem (yallo_mem k2 o hm)
      exact hP r1 q6 q7 q4 ⟨p1, p2, ypm_ok p3 q2 q3 q5 q8⟩) e2 ⟨hT, hInv, fun _ _ _ _ => rfl⟩
    rw [e3] at key
    exact key
end REL9
end
section
/-! single steps of the machine -/
theorem gdt {α : Type} (x : Option α) : gd true x = x := rfl
section ST9
variable {call : Call} {E : Env9} {n : Nat}
theorem rF9 {d b : Nat} {code : TrT Blk d} {ops : List Op1} {t : Trm} (f : Nat) (h : tget d code b = (ops, t)) : runF call d code (f + 1) b = runB call (runF call d code f) t ops := by
  have e : runF call d code (f + 1) b = runB call (runF call d code f) (tget d code b).2 (tget d code b).1 := rfl
  rw [e, h]
theorem rBc (j : Jmp) (t : Trm) (o : Op1) (l : List Op1) : runB call j t (o :: l) = o call (runB call j t l) := rfl
theorem rBn (j : Jmp) (t : Trm) : runB call j t [] = t call j := rfl
theorem ldn (f : AV → Bool) (i z : Nat) (K : KK) (L S : List AV) (M : Mem) : op_ld f i call K E n z L S M = gd (f (nth L i)) (K E n z L (nth L i :: S) M) := rfl
theorem stn (f : AV → Bool) (i z : Nat) (K : KK) (v : AV) (L S : List AV) (M : Mem) : op_st f i call K E n z L (v :: S) M = gd (f v) (gd (lk2 L i) (K E n z (nst L i v) S M)) := rfl
theorem ifn (tl te tg x z : Nat) (J : Jmp) (L S : List AV) (M : Mem) : tm_if tl te tg call J E n z L (vI x :: S) M = c3 (bi x) (bi 0) (J tl E n z L S M) (J te E n z L S M) (J tg E n z L S M) := rfl
theorem binn (g : Nat → Nat → Nat) (x y z : Nat) (K : KK) (L S : List AV) (M : Mem) : op_bin g call K E n z L (vI y :: vI x :: S) M = K E n z L (vI (g x y) :: S) M := by
  have e : op_bin g call K E n z L (vI y :: vI x :: S) M = fN (g x y) fun r => K E n z L (vI r :: S) M := rfl
  rw [e, fN_eq]
theorem addn (x y z : Nat) (K : KK) (L S : List AV) (M : Mem) : op_add call K E n z L (vI y :: vI x :: S) M = K E n z L (vI ((x + y) % 4294967296) :: S) M := by
  have e : op_add call K E n z L (vI y :: vI x :: S) M = fN ((x + y) % 4294967296) fun r => K E n z L (vI r :: S) M := rfl
  rw [e, fN_eq]
theorem retn (f : AV → Bool) (B : Nat) (v : AV) (J : Jmp) (L : List AV) (M : Mem) : tm_ret f B call J E n 0 L [v] M = gd (f v) (gd (Nat.ble 0 B) (some [((0, 0), E, v, [], [], M, n, 0)])) := rfl
theorem pun (v : AV) (z : Nat) (K : KK) (L S : List AV) (M : Mem) : op_push v call K E n z L S M = K E n z L (v :: S) M := rfl
theorem icn (tl te tg x y z : Nat) (J : Jmp) (L S : List AV) (M : Mem) : tm_icmp tl te tg call J E n z L (vI y :: vI x :: S) M = c3 (bi x) (bi y) (J tl E n z L S M) (J te E n z L S M) (J tg E n z L S M) := rfl
theorem gotn (t z : Nat) (J : Jmp) (L S : List AV) (M : Mem) : tm_goto t call J E n z L S M = J t E n z L S M := rfl
theorem incn (i c x z : Nat) (K : KK) (L S : List AV) (M : Mem) (h : nth L i = vI x) (h2 : lk2 L i = true) : op_iinc i c call K E n z L S M = K E n z (nst L i (vI ((x + c) % 4294967296))) S M := by
  have e : op_iinc i c call K E n z L S M = gd (isI (nth L i)) (gd (lk2 L i) (addK (nth L i) (vI c) fun r => K E n z (nst L i r) S M)) := rfl
  rw [e, h, h2]
  have e2 : gd (isI (vI x)) (gd true (addK (vI x) (vI c) fun r => K E n z (nst L i r) S M)) = fN ((x + c) % 4294967296) fun r => K E n z (nst L i (vI r)) S M := rfl
  rw [e2, fN_eq]
end ST9
theorem isAv (k : Nat) : isA (vR k) = true := rfl
theorem isIv (x : Nat) : isI (vI x) = true := rfl
end
section
/-! loops whose rounds are pieces: one after the other; rows copied -/
noncomputable def allN (n : Nat) (f : Nat → Bool) : Bool := Nat.rec true (fun m ih => Bool.rec false ih (f m)) n
theorem allN_ok {f : Nat → Bool} : ∀ {n : Nat}, allN n f = true → ∀ c, c < n → f c = true := by
  intro n
  induction n with
  | zero => intro _ c hc; omega
  | succ n ih =>
    intro h c hc
    obtain ⟨h1, h2⟩ := band (show (Bool.rec false (allN n f) (f n) : Bool) = true from h)
    by_cases e : c = n
    · rw [e]; exact h1
    · exact ih h2 c (by omega)
def T9 : Mem → Prop := fun _ => True
noncomputable def pr9 : Nat → Int → Bool := fun _ _ => false
section FAM
variable {kd : Nat → Nat} {sh : Nat → Sh} {rt : Nat → Nat → Nat} {bd : Nat → Int → Int × Int} {un : Nat → Bool} {Wp PR : Nat → Int → Bool} {Inv : Mem → Prop} {Ev : Env9}
theorem hang_T : Hang kd pr9 T9 := fun _ _ _ _ => trivial
noncomputable def MT9 : Nat → Option MDT := fun _ => none
noncomputable def CT9 : Nat → List Ctr := fun _ => []
theorem CS_nil {M0 : Mem} {call : Call} : CS kd sh rt bd Wp Inv M0 Ev call (xM kd sh rt bd un Wp PR MT9 CT9 0) := fun _ _ _ _ _ h => nomatch (show (none : Option (List Out)) = some _ from h)
/-- a piece, from a memory that stands for the one before -/
theorem seg1 (hu : ∀ κ v, un κ = true → bd κ v = bd κ 0) (hI : Hang kd PR Inv) {MT : Nat → Option MDT} {CT : Nat → List Ctr} {D : Nat} {call : Call} {L : List AV} {M : Mem} (hC : CS kd sh rt bd Wp Inv M Ev call (xM kd sh rt bd un Wp PR MT CT D)) {md : MDT} {d : Nat} {ct : TrT Blk d} (hmd : MdC md d ct) {sts : List (Nat × List SPt)} {posts : List Pst} {C F b f : Nat} {p : SPt} {P : Res → Prop} (h : xseg kd sh rt bd un Wp PR MT CT D md sts posts C b p = true) (hf : C + F ≤ f) (hQ : SpOK kd p L M) (hT : TI kd sh rt bd M) (hInv : Inv M)
    (hst : ∀ q ∈ sts, ∀ p' ∈ q.2, ∀ f', F ≤ f' → ∀ (L' : List AV) (M' : Mem), SpOK kd p' L' M' → GM kd sh rt bd Wp Inv M M' → OKo (runF call d ct f' q.1 Ev 466 0 L' [] M') P)
    (hP : ∀ r : Res, r.2.1 = Ev → r.2.2.2.2.2.2.1 = 466 → GM kd sh rt bd Wp Inv M r.2.2.2.2.2.1 → (∃ q ∈ posts, pOK kd q r) → P r) : OKo (runF call d ct f b Ev 466 0 L [] M) P :=
  xseg_ok (M0 := M) hu hI hC hmd h (fun q h1 p' h2 f' hf' L' M' h3 h4 => hst q h1 p' h2 f' hf' L' M' h3 h4) hP f hf L M hQ ⟨hT, hInv, fun _ _ _ _ => rfl⟩
theorem fam_ok (hu : ∀ κ v, un κ = true → bd κ v = bd κ 0) {call : Call} {md : MDT} {d : Nat} {ct : TrT Blk d} (hmd : MdC md d ct) {N C F b : Nat} {S : Nat → SPt} {RL : Nat → List Rl9} {W : Nat → Nat → Int → Bool} {P : Res → Prop} {Hist : Nat → Mem → Prop}
    (hseg : ∀ c, c < N → xsegR kd sh rt bd un (W c) pr9 MT9 CT9 0 md [(b, [(S (c + 1), RL c)])] [] C b (S c) = true)
    (hH : ∀ c, c < N → ∀ M M', Hist c M → TI kd sh rt bd M' → Fr kd (W c) M M' → PrFa kd [] (S (c + 1)).2.1 M' → (∀ e ∈ RL c, rdI M' e.1.1 e.1.2 = rdI M e.2.1.1 e.2.1.2 + e.2.2) → Hist (c + 1) M')
    (hN : ∀ f, F ≤ f → ∀ (L : List AV) (M : Mem), SpOK kd (S N) L M → Hist N M → TI kd sh rt bd M → OKo (runF call d ct f b Ev 466 0 L [] M) P) : ∀ (m c f : Nat), c + m = N → m * C + F ≤ f → ∀ (L : List AV) (M : Mem), SpOK kd (S c) L M → Hist c M → TI kd sh rt bd M → OKo (runF call d ct f b Ev 466 0 L [] M) P := by
  intro m
  induction m with
  | zero =>
    intro c f hc hf L M h1 h2 h3
    have e : c = N := by omega
    subst e
    exact hN f (by omega) L M h1 h2 h3
  | succ m ih =>
    intro c f hc hf L M h1 h2 h3
    have e : (m + 1) * C = m * C + C := Nat.succ_mul _ _
    refine segR hu hang_T CS_nil hmd (hseg c (by omega)) (F := m * C + F) (by omega) h1 h3 trivial (fun q q1 p' q2 f' q3 L' M' q4 q6 q5 => ?_) (fun r _ _ _ q => ?_)
    · obtain rfl := List.mem_singleton.mp q1
      obtain rfl := List.mem_singleton.mp q2
      exact ih (c + 1) f' (by omega) q3 L' M' q4 (hH c (by omega) M M' h2 q5.1 q5.2.2 q4.2.1 q6) q5.1
    · obtain ⟨p, hp, _⟩ := q
      cases hp
end FAM
/-- a fact, a sum of known places -/
theorem fact_at {kd : Nat → Nat} {l : List Fct} {M : Mem} (h : PrFa kd [] l M) {c i : Nat} {lo hi : Int} (hm : ((.inl c, (0, 0, (i : Int))), lo, hi) ∈ l) : lo ≤ rdI M c i ∧ rdI M c i ≤ hi := by
  obtain ⟨k, j, ⟨h1, h2⟩, h3⟩ := h _ hm
  have e1 : k = c := h1.2
  have e2 : (0 : Int) + (i : Int) = (j : Int) ∨ (i : Int) = (j : Int) := by
    have h2 : yev [] (0, 0, (i : Int)) = some (j : Int) := h2
    rw [yev_c] at h2
    exact Or.inr (Option.some.inj h2)
  have e3 : i = j := by omega
  rw [← e1, e3]
  exact h3
theorem fact_of {kd : Nat → Nat} {M : Mem} {c i : Nat} {lo hi : Int} (hc : c < 466) (h : lo ≤ rdI M c i ∧ rdI M c i ≤ hi) : ∃ k j : Nat, Pl kd [] (.inl c, (0, 0, (i : Int))) k j ∧ lo ≤ rdI M k j ∧ rdI M k j ≤ hi :=
  ⟨c, i, ⟨⟨hc, rfl⟩, yev_c⟩, h⟩
theorem sum_at {kd : Nat → Nat} {l : List Sct} {M : Mem} (h : PrSu kd [] l M) {c i c' i' : Nat} {s lo hi : Int} (hm : ((.inl c, (0, 0, (i : Int))), (.inl c', (0, 0, (i' : Int))), s, lo, hi) ∈ l) : lo ≤ rdI M c i + s * rdI M c' i' ∧ rdI M c i + s * rdI M c' i' ≤ hi := by
  obtain ⟨k, j, k', j', ⟨h1, h2⟩, ⟨h3, h4⟩, h5⟩ := h _ hm
  have e1 : k = c := h1.2
  have e2 : k' = c' := h3.2
  have e3 : i = j := by
    have h2 : yev [] (0, 0, (i : Int)) = some (j : Int) := h2
    rw [yev_c] at h2
    have := Option.some.inj h2
    omega
  have e4 : i' = j' := by
    have h4 : yev [] (0, 0, (i' : Int)) = some (j' : Int) := h4
    rw [yev_c] at h4
    have := Option.some.inj h4
    omega
  rw [← e1, ← e2, e3, e4]
  exact h5
/-! the reference's copies -/
/-- this many numbers stand there as they stood here; all else is as it was -/
def CpR (a a0 b b0 N : Nat) (M M' : Mem) : Prop := (∀ j, j < N → rdI M' b (b0 + j) = rdI M a (a0 + j)) ∧ ∀ k : Nat, k < 466 → ∀ i : Nat, (k ≠ b ∨ i < b0 ∨ b0 + N ≤ i) → rdI M' k i = rdI M k i
noncomputable def mdCp : MDT := (5, nb_X11_copies, [])
noncomputable def Lcp (a a0 b b0 k : Nat) : List AV := [vR a, vI a0, vR b, vI b0, vI k]
section CPH
variable {call : Call} {Ev : Env9} {d a a0 b b0 : Nat} {ct : TrT Blk d}
theorem cp_b0 (h : MdC mdCp d ct) : tget d ct 0 = ([op_push (vI 0), op_st isI 4], tm_goto 1) := h 0 _ rfl
theorem cp_b1 (h : MdC mdCp d ct) : tget d ct 1 = ([op_ld isI 4, op_push (vI 627)], tm_icmp 2 3 3) := h 1 _ rfl
theorem cp_b2 (h : MdC mdCp d ct) : tget d ct 2 = ([op_ld isA 2, op_ld isI 3, op_ld isI 4, op_add, op_ld isA 0, op_ld isI 1, op_ld isI 4, op_add, op_iald 0, op_iast, op_iinc 4 1], tm_goto 1) := h 2 _ rfl
theorem cp_b3 (h : MdC mdCp d ct) : tget d ct 3 = ([], tm_vret 0) := h 3 _ rfl
theorem cp_s0 (h : MdC mdCp d ct) {f : Nat} {M : Mem} : runF call d ct (f + 1) 0 Ev 466 0 [vR a, vI a0, vR b, vI b0, vW 3] [] M = runF call d ct f 1 Ev 466 0 (Lcp a a0 b b0 0) [] M := by
  rw [rF9 f (cp_b0 h), rBc, rBc, rBn, pun, stn, isIv, gdt, show lk2 [vR a, vI a0, vR b, vI b0, vW 3] 4 = true from rfl, gdt, gotn]
  rfl
theorem cp_s1 (h : MdC mdCp d ct) {f k : Nat} {M : Mem} (hk : k < 627) : runF call d ct (f + 1) 1 Ev 466 0 (Lcp a a0 b b0 k) [] M = runF call d ct f 2 Ev 466 0 (Lcp a a0 b b0 k) [] M := by
  have hl : sg k < sg 627 := by
    rw [sg_eq (show k ≤ 2147483647 by omega), sg_eq (show 627 ≤ 2147483647 by decide)]
    omega
  rw [rF9 f (cp_b1 h), rBc, rBc, rBn, ldn, show nth (Lcp a a0 b b0 k) 4 = vI k from rfl, isIv, gdt, pun, icn, c3_eq, if_pos (bi_lt_iff.mpr hl)]
theorem cp_s3 (h : MdC mdCp d ct) {f : Nat} {M : Mem} : runF call d ct (f + 2) 1 Ev 466 0 (Lcp a a0 b b0 627) [] M = some [((1, 0), Ev, vW 3, [], [], M, 466, 0)] := by
  rw [rF9 (f + 1) (cp_b1 h), rBc, rBc, rBn, ldn, show nth (Lcp a a0 b b0 627) 4 = vI 627 from rfl, isIv, gdt, pun, icn, c3_eq, if_neg (Nat.lt_irrefl _), if_pos rfl, rF9 f (cp_b3 h), rBn]
  rfl
theorem cp_s2 (h : MdC mdCp d ct) {f k Na p Nb p' : Nat} {M : Mem} (hA : tget 9 M a = cI 0 Na p []) (hB : tget 9 M b = cI 0 Nb p' []) (h1 : a0 + k < Na) (h2 : b0 + k < Nb) (h3 : Na ≤ 100000) (h4 : Nb ≤ 100000) (hk : k < 627) : runF call d ct (f + 1) 2 Ev 466 0 (Lcp a a0 b b0 k) [] M = runF call d ct f 1 Ev 466 0 (Lcp a a0 b b0 (k + 1)) [] (tset 9 M b (cI 0 Nb (pset p' (b0 + k) (pget p (a0 + k))) [])) := by
  rw [rF9 f (cp_b2 h), rBc, rBc, rBc, rBc, rBc, rBc, rBc, rBc, rBc, rBc, rBc, rBn,
    ldn, show nth (Lcp a a0 b b0 k) 2 = vR b from rfl, isAv, gdt, ldn, show nth (Lcp a a0 b b0 k) 3 = vI b0 from rfl, isIv, gdt, ldn, show nth (Lcp a a0 b b0 k) 4 = vI k from rfl, isIv, gdt, addn,
    ldn, show nth (Lcp a a0 b b0 k) 0 = vR a from rfl, isAv, gdt, ldn, show nth (Lcp a a0 b b0 k) 1 = vI a0 from rfl, isIv, gdt, ldn, show nth (Lcp a a0 b b0 k) 4 = vI k from rfl, isIv, gdt, addn,
    Nat.mod_eq_of_lt (show b0 + k < 4294967296 by omega), Nat.mod_eq_of_lt (show a0 + k < 4294967296 by omega), op_iald_n hA h1, op_iast_n hB h2,
    incn 4 1 k 0 _ _ _ _ (show nth (Lcp a a0 b b0 k) 4 = vI k from rfl) (show lk2 (Lcp a a0 b b0 k) 4 = true from rfl), Nat.mod_eq_of_lt (show k + 1 < 4294967296 by omega), gotn]
  rfl
end CPH
noncomputable def isRow (k N : Nat) : Bool := match sh0 (kd0 k) with | .inr (.inl q) => Bool.rec false (Nat.beq q.2 N) (Nat.beq q.1 0) | _ => false
theorem isRow_ok {k N : Nat} (h : isRow k N = true) : sh0 (kd0 k) = .inr (.inl (0, N)) := by
  unfold isRow at h
  rcases hs : sh0 (kd0 k) with q | q | q | q
  · rw [hs] at h; cases h
  · rw [hs] at h
    obtain ⟨h1, h2⟩ := band (a := Nat.beq q.1 0) (b := Nat.beq q.2 N) h
    obtain ⟨q1, q2⟩ := q
    have h1 : q1 = 0 := Nat.eq_of_beq_eq_true h1
    have h2 : q2 = N := Nat.eq_of_beq_eq_true h2
    rw [h1, h2]
  · rw [hs] at h; cases h
  · rw [hs] at h; cases h
theorem row_of {M : Mem} (hT : TI kd0 sh0 rt0 bd0 M) {k N : Nat} (hk : k < 466) (h : isRow k N = true) : ∃ p, tget 9 M k = cI 0 N p [] ∧ N ≤ 100000 ∧ ∀ j : Nat, j < N → (bd0 (kd0 k) j).1 ≤ sg (pget p j) ∧ sg (pget p j) ≤ (bd0 (kd0 k) j).2 := by
  have h1 := hT k hk
  unfold cOK at h1
  rw [isRow_ok h] at h1
  exact h1
theorem row_set {M : Mem} (hT : TI kd0 sh0 rt0 bd0 M) {k N p j x : Nat} (hk : k < 466) (h : isRow k N = true) (hM : tget 9 M k = cI 0 N p []) (hx : x < 4294967296) (hb : (bd0 (kd0 k) j).1 ≤ sg x ∧ sg x ≤ (bd0 (kd0 k) j).2) : TI kd0 sh0 rt0 bd0 (tset 9 M k (cI 0 N (pset p j x) [])) := by
  obtain ⟨p2, e1, e2, e3⟩ := row_of hT hk h
  rw [hM] at e1
  have e4 : p = p2 := by
    have := Sum.inl.inj (Sum.inr.inj e1)
    exact congrArg (fun q : Nat × Nat × Nat × List (Nat × AV) => q.2.2.1) this
  subst e4
  refine ti_set hT hk ?_
  unfold cOK
  rw [isRow_ok h]
  refine ⟨_, rfl, e2, fun i hi => ?_⟩
  rw [pget_pset]
  by_cases q : i = j
  · rw [if_pos q, Nat.mod_eq_of_lt hx, q]; exact hb
  · rw [if_neg q]; exact e3 i hi
noncomputable def bdE (k i k' i' : Nat) : Bool := Bool.rec false (ieq (bd0 (kd0 k) ((i : Nat) : Int)).2 (bd0 (kd0 k') ((i' : Nat) : Int)).2) (ieq (bd0 (kd0 k) ((i : Nat) : Int)).1 (bd0 (kd0 k') ((i' : Nat) : Int)).1)
/-- the row at a from a0 on fits the row at b from b0 on -/
def cpChk (a a0 b b0 : Nat) : Prop := ∃ Na Nb, isRow a Na = true ∧ isRow b Nb = true ∧ a0 + 627 ≤ Na ∧ b0 + 627 ≤ Nb ∧ allN 627 (fun j => bdE b (b0 + j) a (a0 + j)) = true
theorem cp_call {bo : Bo9} {R : Nat → Call} {Ev : Env9} (hR : ∀ k y E n as M, R (k + 1) y E n as M = bo y (R k) E n as M) (hmd : MDOK bo 178 mdCp) {a a0 b b0 k : Nat} (ha : a < 466) (hb : b < 466) (hab : a ≠ b ∨ b0 + 627 ≤ a0 ∨ a0 + 627 ≤ b0) (h : cpChk a a0 b b0) {vs : List AV} {M : Mem} (hv : asOK kd0 [(1, (a : Int), 0), (0, (a0 : Int), (a0 : Int)), (1, (b : Int), 0), (0, (b0 : Int), (b0 : Int))] vs) (hT : TI kd0 sh0 rt0 bd0 M) : OKo (R (k + 1) 178 Ev 466 vs M) (fun r => r.1 = (1, 0) ∧ r.2.1 = Ev ∧ r.2.2.2.2.2.2.1 = 466 ∧ TI kd0 sh0 rt0 bd0 r.2.2.2.2.2.1 ∧ CpR a a0 b b0 627 M r.2.2.2.2.2.1) := by
  obtain ⟨d, c, e1, e2⟩ := hmd
  obtain ⟨Na, Nb, n1, n2, n3, n4, n5⟩ := h
  have hmC : MdC mdCp d c := e1
  have hvs : vs = [vR a, vI a0, vR b, vI b0] := by
    have small : ∀ (m x : Nat), m ≤ 100000 → x < 4294967296 → ((m : Nat) : Int) ≤ sg x → sg x ≤ ((m : Nat) : Int) → x = m := fun m x hm hx h1 h2 => by
      have h3 : sg x = (m : Int) := Int.le_antisymm h2 h1
      clear h1 h2
      unfold sg bi at h3
      omega
    obtain ⟨p1, -, -⟩ := row_of hT ha n1
    obtain ⟨q1, q2, q3, -⟩ := row_of hT hb n2
    obtain ⟨q4, q5, q6, -⟩ := row_of hT ha n1
    cases vs with
    | nil => exact hv.elim
    | cons v1 vs =>
      cases vs with
      | nil => exact hv.2.elim
      | cons v2 vs =>
        cases vs with
        | nil => exact hv.2.2.elim
        | cons v3 vs =>
          cases vs with
          | nil => exact hv.2.2.2.elim
          | cons v4 vs =>
            cases vs with
            | cons _ _ => exact hv.2.2.2.2.elim
            | nil =>
              obtain ⟨w1, ⟨x, w2, w3, w4, w5⟩, w6, ⟨y, w7, w8, w9, w10⟩, _⟩ := hv
              have g1 : v1 = vR a := w1.1
              have g3 : v3 = vR b := w6.1
              rw [g1, g3, w2, w7, small a0 x (by omega) w3 w4 w5, small b0 y (by omega) w8 w9 w10]
  subst hvs
  rw [hR, e2, show (flatL [vR a, vI a0, vR b, vI b0]).length = 4 from rfl, show Nat.ble 4 mdCp.1 = true from rfl, gdt, show iniL mdCp.1 [vR a, vI a0, vR b, vI b0] = [vR a, vI a0, vR b, vI b0, vW 3] from rfl]
  have loop : ∀ (m k2 f : Nat) (M1 : Mem), k2 + m = 627 → 2 * m + 2 ≤ f → CpR a a0 b b0 k2 M M1 → TI kd0 sh0 rt0 bd0 M1 → OKo (runF (R k) d c f 1 Ev 466 0 (Lcp a a0 b b0 k2) [] M1) (fun r => r.1 = (1, 0) ∧ r.2.1 = Ev ∧ r.2.2.2.2.2.2.1 = 466 ∧ TI kd0 sh0 rt0 bd0 r.2.2.2.2.2.1 ∧ CpR a a0 b b0 627 M r.2.2.2.2.2.1) := by
    intro m
    induction m with
    | zero =>
      intro k2 f M1 hk hf g1 g2
      have e : k2 = 627 := by omega
      subst e
      obtain ⟨f', rfl⟩ : ∃ f', f = f' + 2 := ⟨f - 2, by omega⟩
      exact ⟨_, cp_s3 hmC, rfl, rfl, rfl, g2, g1⟩
    | succ m ih =>
      intro k2 f M1 hk hf g1 g2
      obtain ⟨f', rfl⟩ : ∃ f', f = f' + 1 + 1 := ⟨f - 2, by omega⟩
      obtain ⟨p, u1, u2, u3⟩ := row_of g2 ha n1
      obtain ⟨p', v1, v2, v3⟩ := row_of g2 hb n2
      rw [cp_s1 hmC (show k2 < 627 by omega), cp_s2 hmC u1 v1 (show a0 + k2 < Na by omega) (show b0 + k2 < Nb by omega) u2 v2 (show k2 < 627 by omega)]
      have hbd := allN_ok n5 k2 (by omega)
      obtain ⟨y1, y2⟩ := band (a := ieq (bd0 (kd0 b) ((b0 + k2 : Nat) : Int)).1 (bd0 (kd0 a) ((a0 + k2 : Nat) : Int)).1) (b := ieq (bd0 (kd0 b) ((b0 + k2 : Nat) : Int)).2 (bd0 (kd0 a) ((a0 + k2 : Nat) : Int)).2) hbd
      have y1 := ieq_iff.mp y1
      have y2 := ieq_iff.mp y2
      have hx := u3 (a0 + k2) (by omega)
      have hT2 := row_set (j := b0 + k2) g2 hb n2 v1 (pget_lt p (a0 + k2)) ⟨by rw [y1]; exact hx.1, by rw [y2]; exact hx.2⟩
      refine ih (k2 + 1) f' _ (by omega) (by omega) ⟨fun j hj => ?_, fun k' hk' i' hi' => ?_⟩ hT2
      · rw [rdI_self hb]
        show sg (pget (pset p' (b0 + k2) (pget p (a0 + k2))) (b0 + j)) = _
        rw [pget_pset]
        by_cases q : j = k2
        · rw [if_pos (by omega), Nat.mod_eq_of_lt (pget_lt _ _), q]
          have h9 : rdI M1 a (a0 + k2) = sg (pget p (a0 + k2)) := by unfold rdI; rw [u1]; rfl
          rw [← h9]
          exact g1.2 a ha (a0 + k2) (by omega)
        · rw [if_neg (by omega)]
          have h9 : rdI M1 b (b0 + j) = sg (pget p' (b0 + j)) := by unfold rdI; rw [v1]; rfl
          rw [← h9]
          exact g1.1 j (by omega)
      · by_cases q : k' = b
        · rw [q, rdI_self hb]
          show sg (pget (pset p' (b0 + k2) (pget p (a0 + k2))) i') = _
          rw [pget_pset, if_neg (by omega)]
          have h9 : rdI M1 b i' = sg (pget p' i') := by unfold rdI; rw [v1]; rfl
          rw [← h9]
          exact g1.2 b hb i' (by omega)
        · rw [rdI_other hb hk' q]
          exact g1.2 k' hk' i' (Or.inl q)
  rw [show (1000000000000 : Nat) = 999999999999 + 1 from rfl, cp_s0 hmC]
  exact loop 627 0 999999999999 M (by omega) (by omega) ⟨fun j hj => by omega, fun _ _ _ _ => rfl⟩ hT
end
section
/-! what holds of the reference's rows between calls -/
theorem cp_ctr {bo : Bo9} {R : Nat → Call} {Ev : Env9} {Inv : Mem → Prop} (hR : ∀ k y E n as M, R (k + 1) y E n as M = bo y (R k) E n as M) (hmd : MDOK bo 178 mdCp) {a a0 b b0 : Nat} (ha : a < 466) (hb : b < 466) (_hk : ∀ j, j < 466 → kd0 j = kd0 b → j = b) (hab : a ≠ b ∨ b0 + 627 ≤ a0 ∨ a0 + 627 ≤ b0) (h : cpChk a a0 b b0) {W : Wrg} (hW : ∀ i, i < 627 → inW W (kd0 b) ((b0 + i : Nat) : Int) = true)
    (hInv : ∀ M M', TI kd0 sh0 rt0 bd0 M → Inv M → CpR a a0 b b0 627 M M' → Inv M') (need : List (Nat × Int × Int)) (hn : ∀ q ∈ need, q.1 < 627) : ∀ k, 1 ≤ k → CtrOK kd0 sh0 rt0 bd0 Inv Ev (R k) 178 ([(1, (a : Int), 0), (0, (a0 : Int), (a0 : Int)), (1, (b : Int), 0), (0, (b0 : Int), (b0 : Int))], need.map (fun q => ((.inl a, (0, 0, ((a0 + q.1 : Nat) : Int))), q.2)), [], W, [((1, 0), (1, 0, 0), need.map (fun q => ((.inl b, (0, 0, ((b0 + q.1 : Nat) : Int))), q.2)), [])]) := by
  intro k hk1 vs M h1 h2 _ hT hI
  obtain ⟨k', rfl⟩ : ∃ k', k = k' + 1 := ⟨k - 1, by omega⟩
  obtain ⟨r, e, r1, r2, r3, r4, r5⟩ := cp_call (Ev := Ev) hR hmd (k := k') ha hb hab h h1 hT
  refine ⟨r, e, r2, r3, r4, hInv _ _ hT hI r5, fun j hj i hi => r5.2 j hj i ?_, _, List.mem_singleton.mpr rfl, r1, fun q => ?_, ?_, fun q hq => by cases hq⟩
  · by_cases e1 : j = b
    · by_cases e2 : i < b0
      · exact Or.inr (Or.inl e2)
      · by_cases e3 : b0 + 627 ≤ i
        · exact Or.inr (Or.inr e3)
        · have h9 := hW (i - b0) (by omega)
          rw [show b0 + (i - b0) = i by omega, ← e1, hi] at h9
          cases h9
    · exact Or.inl e1
  · rw [r1] at q; cases q
  · intro q hq
    obtain ⟨w, hw, rfl⟩ := List.mem_map.mp hq
    have h9 := fact_at h2 (c := a) (i := a0 + w.1) (lo := w.2.1) (hi := w.2.2) (List.mem_map.mpr ⟨w, hw, rfl⟩)
    refine fact_of hb ?_
    rw [r5.1 w.1 (hn w hw)]
    exact h9
def rows9 : List (Nat × Nat) := [(453, 0), (454, 0), (455, 0), (456, 0), (457, 0), (457, 627), (457, 1254), (457, 1881), (457, 2508), (457, 3135), (457, 3762), (457, 4389)]
/-- an echo with an employer is in its staff -/
def RowE (M : Mem) (k o : Nat) : Prop := ∀ e : Nat, e < 12 → ∀ v : Nat, v < 8 → rdI M k (o + (36 + 15 * e)) = (v : Int) + 1 → ∃ p : Nat, p < 3 ∧ (p : Int) < rdI M k (o + (216 + 17 * v)) ∧ rdI M k (o + (217 + 17 * v + p)) = (e : Int)
def InvE (M : Mem) : Prop := ∀ q ∈ rows9, RowE M q.1 q.2
def GoodR (M : Mem) (k o : Nat) : Prop := (1 ≤ rdI M k (o + 3) ∧ rdI M k (o + 3) ≤ 30) ∧ (1 ≤ rdI M k (o + 4) ∧ rdI M k (o + 4) ≤ 12) ∧ (1 ≤ rdI M k (o + 0) ∧ rdI M k (o + 0) ≤ 12) ∧ (1 ≤ rdI M k (o + 1) ∧ rdI M k (o + 1) ≤ 8)
/-- what a command's numbers are: its verb, the first, the second -/
def relL : List (Int × (Int × Int) × (Int × Int)) := [(0, (1, 60), (-2147483648, 2147483647)), (1, (-2147483648, 2147483647), (-2147483648, 2147483647)), (2, (0, 7), (0, 11)), (3, (0, 11), (-2147483648, 2147483647)), (4, (0, 7), (1, 99)), (5, (0, 7), (1, 999)), (6, (0, 11), (-2147483648, 2147483647))]
def Rel9 (x y z : Int) : Prop := ∃ q ∈ relL, x = q.1 ∧ (q.2.1.1 ≤ y ∧ y ≤ q.2.1.2) ∧ (q.2.2.1 ≤ z ∧ z ≤ q.2.2.2)
def XCo (M : Mem) : Prop := ∀ i : Nat, i < 30 → (i : Int) < rdI M 448 4 → Rel9 (rdI M 449 i) (rdI M 450 i) (rdI M 451 i)
def XTo (M : Mem) : Prop := ∀ i : Nat, i < 30 → (i : Int) < rdI M 452 25 → Rel9 (rdI M 463 (3 * i)) (rdI M 463 (3 * i + 1)) (rdI M 463 (3 * i + 2))
def InvS (M : Mem) : Prop := (rdI M 452 7 = 1 → GoodR M 454 0) ∧ XCo M ∧ XTo M
theorem XC_eq {M M' : Mem} (h : ∀ k i : Nat, k = 448 ∧ i = 4 ∨ k = 449 ∨ k = 450 ∨ k = 451 → i < 30 → rdI M' k i = rdI M k i) (hx : XCo M) : XCo M' := by
  intro i hi h1
  rw [h 448 4 (by omega) (by omega)] at h1
  rw [h 449 i (by omega) hi, h 450 i (by omega) hi, h 451 i (by omega) hi]
  exact hx i hi h1
theorem XT_eq {M M' : Mem} (h : ∀ k i : Nat, k = 452 ∧ i = 25 ∨ k = 463 → i < 90 → rdI M' k i = rdI M k i) (hx : XTo M) : XTo M' := by
  intro i hi h1
  rw [h 452 25 (by omega) (by omega)] at h1
  rw [h 463 (3 * i) (by omega) (by omega), h 463 (3 * i + 1) (by omega) (by omega), h 463 (3 * i + 2) (by omega) (by omega)]
  exact hx i hi h1
def InvK (m : Nat) (M : Mem) : Prop := InvE M ∧ InvS M ∧ ∀ i : Nat, i < m → i < 8 → GoodR M 457 (627 * i)
def Inv0 (M : Mem) : Prop := InvE M ∧ InvS M ∧ ∀ i : Nat, i < 8 → (i : Int) < rdI M 452 5 → GoodR M 457 (627 * i)
theorem RowE_eq {M M' : Mem} {k o k' o' : Nat} (h : ∀ j, j < 627 → rdI M' k' (o' + j) = rdI M k (o + j)) (hr : RowE M k o) : RowE M' k' o' := by
  intro e he v hv h1
  rw [h _ (by omega)] at h1
  obtain ⟨p, p1, p2, p3⟩ := hr e he v hv h1
  exact ⟨p, p1, by rw [h _ (by omega)]; exact p2, by rw [h _ (by omega)]; exact p3⟩
theorem GoodR_eq {M M' : Mem} {k o k' o' : Nat} (h : ∀ j, j < 627 → rdI M' k' (o' + j) = rdI M k (o + j)) (hr : GoodR M k o) : GoodR M' k' o' := by
  unfold GoodR
  rw [h 3 (by omega), h 4 (by omega), h 0 (by omega), h 1 (by omega)]
  exact hr
theorem rows9_ne : ∀ q ∈ rows9, ∀ w ∈ rows9, q ≠ w → q.1 ≠ w.1 ∨ q.2 + 627 ≤ w.2 ∨ w.2 + 627 ≤ q.2 := by decide
theorem rows9_lt : ∀ q ∈ rows9, q.1 < 466 := by decide
theorem InvE_cp {a a0 b b0 : Nat} {M M' : Mem} (ha : (a, a0) ∈ rows9) (hb : (b, b0) ∈ rows9) (h : CpR a a0 b b0 627 M M') (hI : InvE M) : InvE M' := by
  intro q hq
  by_cases e : q = (b, b0)
  · rw [e]
    exact RowE_eq (k := a) (o := a0) h.1 (hI (a, a0) ha)
  · refine RowE_eq (k := q.1) (o := q.2) (fun j hj => h.2 q.1 (rows9_lt q hq) (q.2 + j) ?_) (hI q hq)
    rcases rows9_ne q hq (b, b0) hb e with h1 | h1 | h1
    · exact Or.inl h1
    · have h1 : q.2 + 627 ≤ b0 := h1
      exact Or.inr (Or.inl (by omega))
    · have h1 : b0 + 627 ≤ q.2 := h1
      exact Or.inr (Or.inr (by omega))
/-- what stays where a row is copied -/
theorem good_cp {a a0 b b0 : Nat} {M M' : Mem} {k o : Nat} (h : CpR a a0 b b0 627 M M') (hk : k < 466) (hd : k ≠ b ∨ o + 627 ≤ b0 ∨ b0 + 627 ≤ o) (hg : GoodR M k o) : GoodR M' k o :=
  GoodR_eq (fun j hj => h.2 k hk (o + j) (by rcases hd with h1 | h1 | h1 <;> omega)) hg
theorem InvX_cp {a a0 b b0 : Nat} {M M' : Mem} (h : CpR a a0 b b0 627 M M') (h1 : 453 ≤ b) (h2 : b ≤ 457) : (XCo M → XCo M') ∧ (XTo M → XTo M') :=
  ⟨XC_eq fun k i hk _ => h.2 k (by omega) i (Or.inl (by omega)), XT_eq fun k i hk _ => h.2 k (by omega) i (Or.inl (by omega))⟩
theorem InvS_cp {a a0 b b0 : Nat} {M M' : Mem} (h : CpR a a0 b b0 627 M M') (h1 : 453 ≤ b ∧ b ≤ 457) (h2 : b ≠ 454) (hI : InvS M) : InvS M' := by
  refine ⟨fun hs => ?_, (InvX_cp h h1.1 h1.2).1 hI.2.1, (InvX_cp h h1.1 h1.2).2 hI.2.2⟩
  rw [h.2 452 (by omega) 7 (Or.inl (by omega))] at hs
  exact good_cp h (by omega) (Or.inl (Ne.symm h2)) (hI.1 hs)
theorem InvK_cp {a a0 b b0 m : Nat} {M M' : Mem} (ha : (a, a0) ∈ rows9) (hb : (b, b0) ∈ rows9) (h : CpR a a0 b b0 627 M M') (h1 : 453 ≤ b ∧ b ≤ 457) (h2 : b ≠ 454) (h3 : b ≠ 457 ∨ 627 * m ≤ b0) (hI : InvK m M) : InvK m M' :=
  ⟨InvE_cp ha hb h hI.1, InvS_cp h h1 h2 hI.2.1, fun i hi hi8 => good_cp h (by omega) (by rcases h3 with h4 | h4; exact Or.inl (Ne.symm h4); exact Or.inr (Or.inl (by omega))) (hI.2.2 i hi hi8)⟩
theorem Inv0_cp {a a0 b b0 : Nat} {M M' : Mem} (ha : (a, a0) ∈ rows9) (hb : (b, b0) ∈ rows9) (h : CpR a a0 b b0 627 M M') (h1 : 453 ≤ b ∧ b ≤ 457) (h2 : b ≠ 454) (h3 : b ≠ 457) (hI : Inv0 M) : Inv0 M' :=
  ⟨InvE_cp ha hb h hI.1, InvS_cp h h1 h2 hI.2.1, fun i hi h9 => good_cp h (by omega) (Or.inl (Ne.symm h3)) (hI.2.2 i hi (by rw [h.2 452 (by omega) 5 (Or.inl (by omega))] at h9; exact h9))⟩
theorem Inv0_K {M : Mem} {m : Nat} (hm : rdI M 452 5 = (m : Int)) (h : Inv0 M) : InvK m M := ⟨h.1, h.2.1, fun i h1 h2 => h.2.2 i h2 (by omega)⟩
theorem InvK_0 {M : Mem} {m : Nat} (hm : rdI M 452 5 ≤ (m : Int)) (h : InvK m M) : Inv0 M := ⟨h.1, h.2.1, fun i h1 h2 => h.2.2 i (by omega) h1⟩
noncomputable def allL {α : Type} (l : List α) (f : α → Bool) : Bool := List.rec true (fun a _ ih => Bool.rec false ih (f a)) l
theorem allL_ok {α : Type} {f : α → Bool} : ∀ {l : List α}, allL l f = true → ∀ a ∈ l, f a = true := by
  intro l
  induction l with
  | nil => intro _ a h; cases h
  | cons b l ih =>
    intro h a hm
    obtain ⟨h1, h2⟩ := band (show (Bool.rec false (allL l f) (f b) : Bool) = true from h)
    rcases List.mem_cons.mp hm with e | e
    · rw [e]; exact h1
    · exact ih h2 a e
/-- the same, but that the number of rows kept may be written -/
noncomputable def PRK (κ : Nat) (v : Int) : Bool := Bool.rec (PR0 κ v) (Bool.rec (PR0 κ v) false (ieq v 5)) (Nat.beq κ 13)
noncomputable def hgE (PR : Nat → Int → Bool) : Bool := allL rows9 (fun q => Bool.rec false (allN 8 (fun v => Bool.rec false (allN 3 (fun p => PR (kd0 q.1) ((q.2 + (217 + 17 * v + p) : Nat) : Int))) (PR (kd0 q.1) ((q.2 + (216 + 17 * v) : Nat) : Int)))) (allN 12 (fun e => PR (kd0 q.1) ((q.2 + (36 + 15 * e) : Nat) : Int))))
theorem hang_E {PR : Nat → Int → Bool} (h : hgE PR = true) {M M' : Mem} (hf : ∀ k : Nat, k < 466 → ∀ i : Nat, PR (kd0 k) i = true → rdI M' k i = rdI M k i) (hI : InvE M) : InvE M' := by
  intro q hq e he v hv h1
  have hk := rows9_lt q hq
  obtain ⟨g1, g2⟩ := band (show (Bool.rec false (allN 8 (fun v => Bool.rec false (allN 3 (fun p => PR (kd0 q.1) ((q.2 + (217 + 17 * v + p) : Nat) : Int))) (PR (kd0 q.1) ((q.2 + (216 + 17 * v) : Nat) : Int)))) (allN 12 (fun e => PR (kd0 q.1) ((q.2 + (36 + 15 * e) : Nat) : Int))) : Bool) = true from allL_ok h q hq)
  obtain ⟨g3, g4⟩ := band (show (Bool.rec false (allN 3 (fun p => PR (kd0 q.1) ((q.2 + (217 + 17 * v + p) : Nat) : Int))) (PR (kd0 q.1) ((q.2 + (216 + 17 * v) : Nat) : Int)) : Bool) = true from allN_ok g2 v hv)
  rw [hf q.1 hk _ (allN_ok g1 e he)] at h1
  obtain ⟨p, p1, p2, p3⟩ := hI q hq e he v hv h1
  exact ⟨p, p1, by rw [hf q.1 hk _ g3]; exact p2, by rw [hf q.1 hk _ (allN_ok g4 p p1)]; exact p3⟩
noncomputable def hgX (PR : Nat → Int → Bool) : Bool := Bool.rec false (Bool.rec false (Bool.rec false (allN 30 (fun i => allL [449, 450, 451] (fun k => PR (kd0 k) (i : Int)))) (allN 90 (fun i => PR (kd0 463) (i : Int)))) (PR (kd0 452) ((25 : Nat) : Int))) (PR (kd0 448) ((4 : Nat) : Int))
theorem hang_X {PR : Nat → Int → Bool} (h : hgX PR = true) {M M' : Mem} (hf : ∀ k : Nat, k < 466 → ∀ i : Nat, PR (kd0 k) i = true → rdI M' k i = rdI M k i) : (XCo M → XCo M') ∧ (XTo M → XTo M') := by
  obtain ⟨g1, g⟩ := band (show (Bool.rec false (Bool.rec false (Bool.rec false (allN 30 (fun i => allL [449, 450, 451] (fun k => PR (kd0 k) (i : Int)))) (allN 90 (fun i => PR (kd0 463) (i : Int)))) (PR (kd0 452) ((25 : Nat) : Int))) (PR (kd0 448) ((4 : Nat) : Int)) : Bool) = true from h)
  obtain ⟨g2, g⟩ := band g
  obtain ⟨g3, g4⟩ := band g
  refine ⟨XC_eq fun k i hk hi => ?_, XT_eq fun k i hk hi => ?_⟩
  · rcases hk with ⟨e1, e2⟩ | e | e | e
    · rw [e1, e2]; exact hf 448 (by omega) 4 g1
    · rw [e]; exact hf 449 (by omega) i (allL_ok (allN_ok g4 i hi) 449 (by decide))
    · rw [e]; exact hf 450 (by omega) i (allL_ok (allN_ok g4 i hi) 450 (by decide))
    · rw [e]; exact hf 451 (by omega) i (allL_ok (allN_ok g4 i hi) 451 (by decide))
  · rcases hk with ⟨e1, e2⟩ | e
    · rw [e1, e2]; exact hf 452 (by omega) 25 g2
    · rw [e]; exact hf 463 (by omega) i (allN_ok g3 i hi)
noncomputable def hgG (PR : Nat → Int → Bool) : Bool := Bool.rec false (Bool.rec false (allL [0, 1, 2, 3, 4, 5, 6, 7] (fun i => allL [3, 4, 0, 1] (fun j => PR (kd0 457) ((627 * i + j : Nat) : Int)))) (allL [3, 4, 0, 1] (fun j => PR (kd0 454) ((0 + j : Nat) : Int)))) (PR (kd0 452) ((7 : Nat) : Int))
theorem good_fr {PR : Nat → Int → Bool} {k o : Nat} (hk : k < 466) (h : allL [3, 4, 0, 1] (fun j => PR (kd0 k) ((o + j : Nat) : Int)) = true) {M M' : Mem} (hf : ∀ k : Nat, k < 466 → ∀ i : Nat, PR (kd0 k) i = true → rdI M' k i = rdI M k i) (hg : GoodR M k o) : GoodR M' k o := by
  unfold GoodR
  rw [hf k hk _ (allL_ok h 3 (by decide)), hf k hk _ (allL_ok h 4 (by decide)), hf k hk _ (allL_ok h 0 (by decide)), hf k hk _ (allL_ok h 1 (by decide))]
  exact hg
theorem hang_S {PR : Nat → Int → Bool} (h : hgG PR = true) (hx : hgX PR = true) {M M' : Mem} (hf : ∀ k : Nat, k < 466 → ∀ i : Nat, PR (kd0 k) i = true → rdI M' k i = rdI M k i) (hI : InvS M) : InvS M' := by
  obtain ⟨g1, g⟩ := band (show (Bool.rec false (Bool.rec false (allL [0, 1, 2, 3, 4, 5, 6, 7] (fun i => allL [3, 4, 0, 1] (fun j => PR (kd0 457) ((627 * i + j : Nat) : Int)))) (allL [3, 4, 0, 1] (fun j => PR (kd0 454) ((0 + j : Nat) : Int)))) (PR (kd0 452) ((7 : Nat) : Int)) : Bool) = true from h)
  obtain ⟨g2, g3⟩ := band g
  refine ⟨fun hs => ?_, (hang_X hx hf).1 hI.2.1, (hang_X hx hf).2 hI.2.2⟩
  rw [hf 452 (by omega) 7 g1] at hs
  exact good_fr (by omega) g2 hf (hI.1 hs)
theorem hang_P {PR : Nat → Int → Bool} (h : hgG PR = true) {M M' : Mem} (hf : ∀ k : Nat, k < 466 → ∀ i : Nat, PR (kd0 k) i = true → rdI M' k i = rdI M k i) {i : Nat} (hi : i < 8) (hg : GoodR M 457 (627 * i)) : GoodR M' 457 (627 * i) := by
  obtain ⟨g1, g⟩ := band (show (Bool.rec false (Bool.rec false (allL [0, 1, 2, 3, 4, 5, 6, 7] (fun i => allL [3, 4, 0, 1] (fun j => PR (kd0 457) ((627 * i + j : Nat) : Int)))) (allL [3, 4, 0, 1] (fun j => PR (kd0 454) ((0 + j : Nat) : Int)))) (PR (kd0 452) ((7 : Nat) : Int)) : Bool) = true from h)
  obtain ⟨g2, g3⟩ := band g
  refine good_fr (by omega) (allL_ok g3 i ?_) hf hg
  have : i = 0 ∨ i = 1 ∨ i = 2 ∨ i = 3 ∨ i = 4 ∨ i = 5 ∨ i = 6 ∨ i = 7 := by omega
  rcases this with e | e | e | e | e | e | e | e <;> rw [e] <;> decide
theorem hgE_0 : hgE PR0 = true := by decide +kernel
theorem hgE_K : hgE PRK = true := by decide +kernel
theorem hgX_0 : hgX PR0 = true := by decide +kernel
theorem hgX_K : hgX PRK = true := by decide +kernel
theorem hgG_0 : hgG PR0 = true := by decide +kernel
theorem hgG_K : hgG PRK = true := by decide +kernel
theorem pr0_m : PR0 (kd0 452) ((5 : Nat) : Int) = true := by decide +kernel
theorem hang_0 : Hang kd0 PR0 Inv0 := fun _ _ h hf => ⟨hang_E hgE_0 hf h.1, hang_S hgG_0 hgX_0 hf h.2.1, fun i hi h9 => hang_P hgG_0 hf hi (h.2.2 i hi (by rw [hf 452 (by omega) 5 pr0_m] at h9; exact h9))⟩
theorem hang_K {m : Nat} : Hang kd0 PRK (InvK m) := fun _ _ h hf => ⟨hang_E hgE_K hf h.1, hang_S hgG_K hgX_K hf h.2.1, fun i h1 h2 => hang_P hgG_K hf h2 (h.2.2 i h1 h2)⟩
theorem hang_E0 : Hang kd0 PR0 InvE := fun _ _ h hf => hang_E hgE_0 hf h
theorem hang_EK : Hang kd0 PRK InvE := fun _ _ h hf => hang_E hgE_K hf h
/-- only the row of now is another -/
theorem Inv0_s {M M' : Mem} (hE : RowE M' 453 0) (hO : ∀ k : Nat, k < 466 → k ≠ 453 → ∀ i : Nat, (k = 452 → i = 5 ∨ i = 7 ∨ i = 25) → rdI M' k i = rdI M k i) (h : Inv0 M) : Inv0 M' := by
  have gd : ∀ k o, k < 466 → k ≠ 453 → k ≠ 452 → GoodR M k o → GoodR M' k o := fun k o h1 h2 h3 hg => GoodR_eq (fun j _ => hO k h1 h2 _ (fun q => absurd q h3)) hg
  refine ⟨fun q hq => ?_, ⟨fun hs => ?_, XC_eq (fun k i hk _ => hO k (by omega) (by omega) i (by omega)) h.2.1.2.1, XT_eq (fun k i hk _ => hO k (by omega) (by omega) i (by omega)) h.2.1.2.2⟩, fun i hi h1 => ?_⟩
  · by_cases e : q = (453, 0)
    · rw [e]; exact hE
    · have e2 : q.1 ≠ 453 ∧ q.1 ≠ 452 := by
        revert e
        exact (by decide : ∀ q ∈ rows9, ¬ q = (453, 0) → q.1 ≠ 453 ∧ q.1 ≠ 452) q hq
      exact RowE_eq (fun j _ => hO q.1 (rows9_lt q hq) e2.1 _ (fun w => absurd w e2.2)) (h.1 q hq)
  · rw [hO 452 (by omega) (by omega) 7 (by omega)] at hs
    exact gd 454 0 (by omega) (by omega) (by omega) (h.2.1.1 hs)
  · rw [hO 452 (by omega) (by omega) 5 (by omega)] at h1
    exact gd 457 _ (by omega) (by omega) (by omega) (h.2.2 i hi h1)
end
