/-! a block's run, a method's run -/
abbrev XOp : Type := XC → (SS → SR) → SS → SR
abbrev XTr : Type := XC → (Nat → SS → SR) → SS → SR
abbrev XBl : Type := List XOp × XTr
/-- a block, a method: the symbolic and the small machine's -/
noncomputable def xB (xc : XC) (xj : Nat → SS → SR) (t : XTr) (l : List XOp) : SS → SR := List.rec (motive := fun _ => SS → SR) (t xc xj) (fun o _ ih => o xc ih) l
/-- a head that is being run: the block, the state before it, how it runs, the ghost -/
abbrev Rc : Type := Nat × SS × An × Nat
noncomputable def yrec (hs : List Rc) (b : Nat) : Option Rc := List.rec none (fun a _ ih => Bool.rec ih (some a) (Nat.beq a.1 b)) hs
theorem yrec_mem {b : Nat} {rc : Rc} : ∀ {hs : List Rc}, yrec hs b = some rc → rc ∈ hs ∧ rc.1 = b := by
  intro hs
  induction hs with
  | nil => intro h; cases h
  | cons a hs ih =>
    intro h
    have h : (Bool.rec (yrec hs b) (some a) (Nat.beq a.1 b) : Option Rc) = some rc := h
    cases hb : Nat.beq a.1 b with
    | false => rw [hb] at h; obtain ⟨h1, h2⟩ := ih h; exact ⟨List.mem_cons_of_mem _ h1, h2⟩
    | true => rw [hb] at h; cases h; exact ⟨List.mem_cons_self, Nat.eq_of_beq_eq_true hb⟩
/-- cost, ends: of a head, for all its rounds -/
noncomputable def ytim (n : Nat) (r : SR) : SR := match r with | some r => some (n * (r.1 + 1), r.2) | none => none
/-- the state with the head's facts -/
noncomputable def ymatS (kd : Nat → Nat) (sh : Nat → Sh) (bd : Nat → Int → Int × Int) (an : An) (σ : SS) : SS := ((ymat kd sh bd an.2.1 (σ.1, σ.2.2.2.1)).1, σ.2.1, σ.2.2.1, (ymat kd sh bd an.2.1 (σ.1, σ.2.2.2.1)).2, σ.2.2.2.2)
noncomputable def xhead (kd : Nat → Nat) (an : An) (σ : SS) (f : SS × Nat → SR) : SR := gdS (ybk0 kd σ an (ylen σ.1) σ) (match yhead kd σ an with | some q => ytim (ymx an + 1) (f q) | none => none)
noncomputable def xrun (kd : Nat → Nat) (sh : Nat → Sh) (bd : Nat → Int → Int × Int) (code : Nat → Option XBl) (ans : Nat → Option An) (xc : XC) (xf : Nat) : List Rc → Nat → SS → SR := Nat.rec (motive := fun _ => List Rc → Nat → SS → SR) (fun _ _ _ => none) (fun _ ih hs b σ => match yrec hs b with
  | some rc => gdS (Bool.rec false (ybkv rc.2.2.1 rc.2.2.2 σ) (ybk0 kd rc.2.1 rc.2.2.1 (ylen rc.2.1.1) σ)) (some (0, []))
  | none => (match code b with
    | some bl => (match ans b with
      | some an => xhead kd an (ymatS kd sh bd an σ) (fun q => xB xc (ih ((b, ymatS kd sh bd an σ, an, q.2) :: hs)) bl.2 bl.1 q.1)
      | none => ytim 1 (xB xc (ih hs) bl.2 bl.1 σ))
    | none => none)) xf
def Fa2 {α β : Type} (R : α → β → Prop) : List α → List β → Prop
  | [], [] => True
  | a :: l, b :: m => R a b ∧ Fa2 R l m
  | _, _ => False
section RUN2
variable {kd : Nat → Nat} {sh : Nat → Sh} {rt : Nat → Nat → Nat} {bd : Nat → Int → Int × Int} {Wp PR : Nat → Int → Bool} {Inv : Mem → Prop} {M0 : Mem} {Ev : Env9} {Zo : Nat}
/-- a step, a block's end: followed -/
def SOP (kd : Nat → Nat) (sh : Nat → Sh) (rt : Nat → Nat → Nat) (bd : Nat → Int → Int × Int) (Wp : Nat → Int → Bool) (Inv : Mem → Prop) (M0 : Mem) (Ev : Env9) (Zo : Nat) (xo : XOp) (op : Op1) : Prop := ∀ (call : Call) (xc : XC) (B : List Int) (c : Nat) (P : Res → Prop) (K : KK) (k : SS → SR), CS kd sh rt bd Wp Inv M0 Ev call xc → KS kd sh rt bd Wp Inv M0 Ev Zo B c P K k → KS kd sh rt bd Wp Inv M0 Ev Zo B c P (op call K) (xo xc k)
def STR (kd : Nat → Nat) (sh : Nat → Sh) (rt : Nat → Nat → Nat) (bd : Nat → Int → Int × Int) (Wp : Nat → Int → Bool) (Inv : Mem → Prop) (M0 : Mem) (Ev : Env9) (Zo : Nat) (xt : XTr) (t : Trm) : Prop := ∀ (call : Call) (xc : XC) (B : List Int) (c : Nat) (P : Res → Prop) (j : Jmp) (xj : Nat → SS → SR), CS kd sh rt bd Wp Inv M0 Ev call xc → KJ kd sh rt bd Wp Inv M0 Ev Zo B c P j xj → KS kd sh rt bd Wp Inv M0 Ev Zo B c P (t call j) (xt xc xj)
def SBL (kd : Nat → Nat) (sh : Nat → Sh) (rt : Nat → Nat → Nat) (bd : Nat → Int → Int × Int) (Wp : Nat → Int → Bool) (Inv : Mem → Prop) (M0 : Mem) (Ev : Env9) (Zo : Nat) (xl : XBl) (bl : Blk) : Prop := STR kd sh rt bd Wp Inv M0 Ev Zo xl.2 bl.2 ∧ Fa2 (SOP kd sh rt bd Wp Inv M0 Ev Zo) xl.1 bl.1
theorem xB_ok {call : Call} {xc : XC} (hC : CS kd sh rt bd Wp Inv M0 Ev call xc) {B : List Int} {c : Nat} {P : Res → Prop} {j : Jmp} {xj : Nat → SS → SR} (hj : KJ kd sh rt bd Wp Inv M0 Ev Zo B c P j xj) {xt : XTr} {t : Trm} (ht : STR kd sh rt bd Wp Inv M0 Ev Zo xt t) : ∀ {xl : List XOp} {l : List Op1}, Fa2 (SOP kd sh rt bd Wp Inv M0 Ev Zo) xl l → KS kd sh rt bd Wp Inv M0 Ev Zo B c P (runB call j t l) (xB xc xj xt xl) := by
  intro xl
  induction xl with
  | nil =>
    intro l h
    cases l with
    | nil => exact ht call xc B c P j xj hC hj
    | cons _ _ => exact h.elim
  | cons a xl ih =>
    intro l h
    cases l with
    | nil => exact h.elim
    | cons b l => exact h.1 call xc B c P _ _ hC (ih h.2)
/-- what is known of a head that is being run -/
def HS (kd : Nat → Nat) (sh : Nat → Sh) (rt : Nat → Nat → Nat) (bd : Nat → Int → Int × Int) (Wp : Nat → Int → Bool) (Inv : Mem → Prop) (M0 : Mem) (Ev : Env9) (Zo : Nat) (R : Nat → Jmp) (hs : List Rc) (f c : Nat) (B : List Int) (P : Res → Prop) : Prop := ∀ rc ∈ hs, ∃ G0 v0, G0 <+: B ∧ yenv G0 rc.2.1.1 ∧ B[rc.2.2.2]? = some v0 ∧ ∀ f', f ≤ f' + c → f' ≤ f → ∀ (L : List AV) (M : Mem) (v : Int), PrHd kd G0 rc.2.1 rc.2.2.1 L M → Var kd G0 rc.2.2.1 L M v → yms rc.2.2.1 v < yms rc.2.2.1 v0 → GM kd sh rt bd Wp Inv M0 M → OKo (R f' rc.1 Ev 466 (Zo + rc.2.1.2.2.2.2) L [] M) P
theorem hs_less {R : Nat → Jmp} {hs : List Rc} {f c f2 c2 : Nat} {B B2 : List Int} {P : Res → Prop} (h : HS kd sh rt bd Wp Inv M0 Ev Zo R hs f c B P) (h1 : f2 ≤ f) (h2 : f + c2 ≤ f2 + c) (hB : B <+: B2) : HS kd sh rt bd Wp Inv M0 Ev Zo R hs f2 c2 B2 P := by
  intro rc hm
  obtain ⟨G0, v0, q1, q2, q3, q4⟩ := h rc hm
  exact ⟨G0, v0, q1.trans hB, q2, pre_at hB q3, fun f' g1 g2 => q4 f' (by omega) (by omega)⟩
theorem outP_up {B B2 : List Int} (h : B <+: B2) {P : Res → Prop} {o : Out} (ho : OutP kd sh rt bd Wp Inv M0 Ev B P o) : OutP kd sh rt bd Wp Inv M0 Ev B2 P o := fun G r h1 => ho G r (h.trans h1)
theorem ytim_some {n : Nat} {r : SR} {q : Nat × List Out} (h : ytim n r = some q) : ∃ x, r = some x ∧ q.1 = n * (x.1 + 1) ∧ q.2 = x.2 := by
  cases r with
  | none => cases h
  | some x => cases h; exact ⟨x, rfl, rfl, rfl⟩
theorem mul_lem {m c f : Nat} (h : (m + 1 + 1) * (c + 1) ≤ f) : ∃ f1, f = f1 + 1 ∧ c ≤ f1 ∧ (m + 1) * (c + 1) ≤ f1 - c := by
  have e : (m + 1 + 1) * (c + 1) = (m + 1) * (c + 1) + (c + 1) := Nat.succ_mul _ _
  exact ⟨f - 1, by omega, by omega, by omega⟩
theorem xrun_ok {code : Nat → Option XBl} {ans : Nat → Option An} {call : Call} {xc : XC} (hC : CS kd sh rt bd Wp Inv M0 Ev call xc) {d : Nat} {ct : TrT Blk d} (hcode : ∀ b xl, code b = some xl → SBL kd sh rt bd Wp Inv M0 Ev Zo xl (tget d ct b)) {P : Res → Prop} : ∀ (xf : Nat) (hs : List Rc) (b : Nat) (f c : Nat) (B : List Int), c ≤ f → HS kd sh rt bd Wp Inv M0 Ev Zo (runF call d ct) hs f c B P → KS kd sh rt bd Wp Inv M0 Ev Zo B c P (runF call d ct f b) (xrun kd sh bd code ans xc xf hs b) := by
  intro xf
  induction xf with
  | zero => intro hs b f c B _ _ σ c' os h; cases h
  | succ xf ih =>
    intro hs b f c B hcf hHS σ c' os h hc ho G L S M hB hS hM
    have h : (match yrec hs b with
      | some rc => gdS (Bool.rec false (ybkv rc.2.2.1 rc.2.2.2 σ) (ybk0 kd rc.2.1 rc.2.2.1 (ylen rc.2.1.1) σ)) (some (0, []))
      | none => (match code b with
        | some bl => (match ans b with
          | some an => xhead kd an (ymatS kd sh bd an σ) (fun q => xB xc (xrun kd sh bd code ans xc xf ((b, ymatS kd sh bd an σ, an, q.2) :: hs)) bl.2 bl.1 q.1)
          | none => ytim 1 (xB xc (xrun kd sh bd code ans xc xf hs) bl.2 bl.1 σ))
        | none => none) : SR) = some (c', os) := h
    cases hr : yrec hs b with
    | some rc =>
      rw [hr] at h
      obtain ⟨h1, h2⟩ := gdS_some h
      obtain ⟨h3, h4⟩ := band h1
      obtain ⟨m1, m2⟩ := yrec_mem hr
      obtain ⟨G0, v0, q1, q2, q3, q4⟩ := hHS rc m1
      have e0 : ylen rc.2.1.1 = G0.length := by rw [ylen_eq, q2.1]
      rw [e0] at h3
      obtain ⟨k1, k2, k3, q, bb, v, k4, k5, k6⟩ := ybk0_ok (q1.trans hB) q2 hS h3
      have k7 := ybkv_ok h4 k4 k5 (pre_at hB q3) k6
      rw [k1, k2, ← m2]
      exact q4 f (by omega) (Nat.le_refl _) L M v k3 k6 k7 hM
    | none =>
      rw [hr] at h
      cases hb : code b with
      | none => rw [hb] at h; cases h
      | some bl =>
        rw [hb] at h
        obtain ⟨t1, t2⟩ := hcode b bl hb
        cases ha : ans b with
        | none =>
          rw [ha] at h
          obtain ⟨x, e1, e2, e3⟩ := ytim_some h
          have e2 : c' = 1 * (x.1 + 1) := e2
          have e3 : os = x.2 := e3
          obtain ⟨f1, rfl⟩ : ∃ f1, f = f1 + 1 := ⟨f - 1, by omega⟩
          have hk := xB_ok hC (c := x.1) (P := P) (B := B) (j := runF call d ct f1) (xj := xrun kd sh bd code ans xc xf hs) (fun b' => ih hs b' f1 x.1 B (by omega) (hs_less hHS (by omega) (by omega) (List.prefix_refl _))) t1 t2
          exact ks_use hk (σ := σ) e1 (Nat.le_refl _) (fun o h9 => ho o (by rw [e3]; exact h9)) hB hS hM
        | some an =>
          rw [ha] at h
          obtain ⟨Gm, m1, m2, m3⟩ := ymat_ok hM.1 (l := an.2.1) (p := (σ.1, σ.2.2.2.1)) hS.1 hS.2.2.2
          have hS' : Sat kd Gm (ymatS kd sh bd an σ) L S M := ⟨m2, svs_mono m1 hS.2.1, svs_mono m1 hS.2.2.1, m3⟩
          have hB' := hB.trans m1
          have ez : (ymatS kd sh bd an σ).2.2.2.2 = σ.2.2.2.2 := rfl
          rw [← ez]
          have h : xhead kd an (ymatS kd sh bd an σ) (fun q => xB xc (xrun kd sh bd code ans xc xf ((b, ymatS kd sh bd an σ, an, q.2) :: hs)) bl.2 bl.1 q.1) = some (c', os) := h
          clear hS hB m1 m2 m3 ez
          generalize ymatS kd sh bd an σ = σ at h hS'
          have hS := hS'
          have hB := hB'
          clear hS' hB'
          generalize Gm = G at hS hB
          obtain ⟨h1, h⟩ := gdS_some h
          cases hh : yhead kd σ an with
          | none => rw [hh] at h; cases h
          | some q =>
            rw [hh] at h
            obtain ⟨x, e1, e2, e3⟩ := ytim_some h
            have e2 : c' = (ymx an + 1) * (x.1 + 1) := e2
            have e3 : os = x.2 := e3
            have e0 : ylen σ.1 = G.length := by rw [ylen_eq, hS.1.1]
            rw [e0] at h1
            obtain ⟨k1, k2, k3, qq, bb, v, k4, k5, k6⟩ := ybk0_ok (List.prefix_refl G) hS.1 hS h1
            have main : ∀ m f', (m + 1) * (x.1 + 1) ≤ f' → HS kd sh rt bd Wp Inv M0 Ev Zo (runF call d ct) hs f' ((m + 1) * (x.1 + 1)) G P → ∀ (L : List AV) (M : Mem) (v : Int), PrHd kd G σ an L M → Var kd G an L M v → yms an v ≤ m → GM kd sh rt bd Wp Inv M0 M → OKo (runF call d ct f' b Ev 466 (Zo + σ.2.2.2.2) L [] M) P := by
              intro m
              induction m with
              | zero =>
                intro f' hf hH L M v p1 p2 p3 p4
                obtain ⟨Gh, g1, g2, g3⟩ := yhead_ok hh p1
                obtain ⟨f1, rfl⟩ : ∃ f1, f' = f1 + 1 := ⟨f' - 1, by omega⟩
                have hk := xB_ok hC (c := x.1) (P := P) (B := Gh) (j := runF call d ct f1) (xj := xrun kd sh bd code ans xc xf ((b, σ, an, q.2) :: hs)) (fun b' => ih _ b' f1 x.1 Gh (by omega) (by
                  intro rc hm
                  rcases List.mem_cons.mp hm with e | e
                  · subst e
                    exact ⟨G, v, g1, hS.1, g3 v p2, fun f2 _ _ L2 M2 v2 _ _ w3 _ => by have w3 : yms an v2 < yms an v := w3; omega⟩
                  · exact hs_less hH (f2 := f1) (c2 := x.1) (by omega) (by omega) g1 rc e)) t1 t2
                have e9 : q.1.2.2.2.2 = σ.2.2.2.2 := by
                  unfold yhead at hh
                  cases hs9 : σ.2.2.1 with
                  | cons _ _ => rw [hs9] at hh; cases hh
                  | nil =>
                    rw [hs9] at hh
                    simp only at hh
                    cases h8 : yhS an.2.2.2.1 (yhH an.2.1 ((yhL an.1 (σ.1, ypreL an.1 an.2.2.2.2.2.2 σ.2.1)).1, ypreH kd an σ.1 σ.2.2.2.1)).2 (yhH an.2.1 ((yhL an.1 (σ.1, ypreL an.1 an.2.2.2.2.2.2 σ.2.1)).1, ypreH kd an σ.1 σ.2.2.2.1)).1 with
                    | none => rw [h8] at hh; cases hh
                    | some E9 => rw [h8] at hh; cases hh; rfl
                have := ks_use hk (σ := q.1) e1 (Nat.le_refl _) (fun o h9 => outP_up (hB.trans g1) (ho o (by rw [e3]; exact h9))) (List.prefix_refl _) g2 p4
                rw [e9] at this
                exact this
              | succ m ihm =>
                intro f' hf hH L M v p1 p2 p3 p4
                obtain ⟨Gh, g1, g2, g3⟩ := yhead_ok hh p1
                obtain ⟨f1, rfl, f2, f3⟩ := mul_lem hf
                have em : (m + 1 + 1) * (x.1 + 1) = (m + 1) * (x.1 + 1) + (x.1 + 1) := Nat.succ_mul _ _
                have hk := xB_ok hC (c := x.1) (P := P) (B := Gh) (j := runF call d ct f1) (xj := xrun kd sh bd code ans xc xf ((b, σ, an, q.2) :: hs)) (fun b' => ih _ b' f1 x.1 Gh f2 (by
                  intro rc hm
                  rcases List.mem_cons.mp hm with e | e
                  · subst e
                    exact ⟨G, v, g1, hS.1, g3 v p2, fun f4 w1 w2 L2 M2 v2 u1 u2 u3 u4 => ihm f4 (by omega) (hs_less hH (f2 := f4) (c2 := (m + 1) * (x.1 + 1)) (by omega) (by omega) (List.prefix_refl _)) L2 M2 v2 u1 u2 (by have u3 : yms an v2 < yms an v := u3; omega) u4⟩
                  · exact hs_less hH (f2 := f1) (c2 := x.1) (by omega) (by omega) g1 rc e)) t1 t2
                have e9 : q.1.2.2.2.2 = σ.2.2.2.2 := by
                  unfold yhead at hh
                  cases hs9 : σ.2.2.1 with
                  | cons _ _ => rw [hs9] at hh; cases hh
                  | nil =>
                    rw [hs9] at hh
                    simp only at hh
                    cases h8 : yhS an.2.2.2.1 (yhH an.2.1 ((yhL an.1 (σ.1, ypreL an.1 an.2.2.2.2.2.2 σ.2.1)).1, ypreH kd an σ.1 σ.2.2.2.1)).2 (yhH an.2.1 ((yhL an.1 (σ.1, ypreL an.1 an.2.2.2.2.2.2 σ.2.1)).1, ypreH kd an σ.1 σ.2.2.2.1)).1 with
                    | none => rw [h8] at hh; cases hh
                    | some E9 => rw [h8] at hh; cases hh; rfl
                have := ks_use hk (σ := q.1) e1 (Nat.le_refl _) (fun o h9 => outP_up (hB.trans g1) (ho o (by rw [e3]; exact h9))) (List.prefix_refl _) g2 p4
                rw [e9] at this
                exact this
            rw [k1]
            exact main (ymx an) f (by omega) (hs_less hHS (Nat.le_refl _) (by omega) hB) L M v k3 k6 (yms_le k6) hM
end RUN2
