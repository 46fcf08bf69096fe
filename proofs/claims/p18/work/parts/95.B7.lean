/-! contracts; methods by depth -/
/-- an argument: 0 an int within, 1 this cell, 2 some cell of this kind, 3 a long, 4 what has this name -/
abbrev APt : Type := Nat × Int × Int
abbrev Fct : Type := (RK × Aff) × Int × Int
abbrev Sct : Type := (RK × Aff) × (RK × Aff) × Int × Int × Int
/-- an end: which; its answer (0 an int within, 1 none, from 2 on as the symbolic values' last kind); facts; sums -/
abbrev Pst : Type := (Nat × Nat) × (Nat × Int × Int) × List Fct × List Sct
abbrev Ctr : Type := List APt × List Fct × List Sct × Wrg × List Pst
noncomputable def inW (w : Wrg) (κ : Nat) (v : Int) : Bool := List.rec false (fun a _ ih => Bool.rec ih true (Bool.rec false (Bool.rec false (ile v a.2.2) (ile a.2.1 v)) (Nat.beq a.1 κ))) w
theorem inW_mem {κ : Nat} {v : Int} : ∀ {w : Wrg}, inW w κ v = true → ∃ a ∈ w, a.1 = κ ∧ a.2.1 ≤ v ∧ v ≤ a.2.2 := by
  intro w
  induction w with
  | nil => intro h; cases h
  | cons a w ih =>
    intro h
    have h : (Bool.rec (inW w κ v) true (Bool.rec false (Bool.rec false (ile v a.2.2) (ile a.2.1 v)) (Nat.beq a.1 κ)) : Bool) = true := h
    cases hb : (Bool.rec false (Bool.rec false (ile v a.2.2) (ile a.2.1 v)) (Nat.beq a.1 κ) : Bool) with
    | true =>
      obtain ⟨k1, k2⟩ := band hb
      obtain ⟨k2, k3⟩ := band k2
      exact ⟨a, List.mem_cons_self, Nat.eq_of_beq_eq_true k1, ile_iff.mp k2, ile_iff.mp k3⟩
    | false =>
      rw [hb] at h
      obtain ⟨a', h1, h2⟩ := ih h
      exact ⟨a', List.mem_cons_of_mem _ h1, h2⟩
theorem inW_of {κ : Nat} {v : Int} {a : Nat × Int × Int} (h1 : a.1 = κ) (h2 : a.2.1 ≤ v) (h3 : v ≤ a.2.2) : ∀ {w : Wrg}, a ∈ w → inW w κ v = true := by
  intro w
  induction w with
  | nil => intro h; cases h
  | cons d w ih =>
    intro h
    show (Bool.rec (inW w κ v) true (Bool.rec false (Bool.rec false (ile v d.2.2) (ile d.2.1 v)) (Nat.beq d.1 κ)) : Bool) = true
    rcases List.mem_cons.mp h with e | e
    · subst e
      rw [h1, Nat.beq_refl, ile_iff.mpr h2, ile_iff.mpr h3]
    · rw [ih e]
      cases (Bool.rec false (Bool.rec false (ile v d.2.2) (ile d.2.1 v)) (Nat.beq d.1 κ) : Bool) <;> rfl
section CTR
variable {kd : Nat → Nat} {sh : Nat → Sh} {rt : Nat → Nat → Nat} {bd : Nat → Int → Int × Int} {un : Nat → Bool} {Wp PR : Nat → Int → Bool} {Inv : Mem → Prop} {M0 : Mem} {Ev : Env9}
def aOK (kd : Nat → Nat) (p : APt) (v : AV) : Prop := match p.1 with
  | 0 => ∃ x, v = vI x ∧ x < 4294967296 ∧ p.2.1 ≤ sg x ∧ sg x ≤ p.2.2
  | 1 => v = vR p.2.1.toNat ∧ p.2.1.toNat < 466
  | 2 => ∃ k, v = vR k ∧ k < 466 ∧ kd k = p.2.1.toNat
  | 3 => ∃ x, v = vJ x
  | _ => v = vW p.2.1.toNat
def asOK (kd : Nat → Nat) : List APt → List AV → Prop
  | [], [] => True
  | p :: l, v :: w => aOK kd p v ∧ asOK kd l w
  | _, _ => False
def rOK (a : Nat × Int × Int) (v : AV) : Prop := match a.1 with
  | 0 => ∃ x, v = vI x ∧ x < 4294967296 ∧ a.2.1 ≤ sg x ∧ sg x ≤ a.2.2
  | 1 => True
  | t + 2 => sv (fun _ => 0) [] (sT t) v
def pOK (kd : Nat → Nat) (p : Pst) (r : Res) : Prop := r.1 = p.1 ∧ (r.1.1 = 0 → rOK p.2.1 r.2.2.1) ∧ PrFa kd [] p.2.2.1 r.2.2.2.2.2.1 ∧ PrSu kd [] p.2.2.2 r.2.2.2.2.2.1
def CtrOK (kd : Nat → Nat) (sh : Nat → Sh) (rt : Nat → Nat → Nat) (bd : Nat → Int → Int × Int) (Inv : Mem → Prop) (Ev : Env9) (call : Call) (y : Nat) (ct : Ctr) : Prop := ∀ (vs : List AV) (M : Mem), asOK kd ct.1 vs → PrFa kd [] ct.2.1 M → PrSu kd [] ct.2.2.1 M → TI kd sh rt bd M → Inv M →
  OKo (call y Ev 466 vs M) (fun r => r.2.1 = Ev ∧ r.2.2.2.2.2.2.1 = 466 ∧ TI kd sh rt bd r.2.2.2.2.2.1 ∧ Inv r.2.2.2.2.2.1 ∧ (∀ k : Nat, k < 466 → ∀ i : Nat, inW ct.2.2.2.1 (kd k) i = false → rdI r.2.2.2.2.2.1 k i = rdI M k i) ∧ ∃ p ∈ ct.2.2.2.2, pOK kd p r)
noncomputable def ymA (kd : Nat → Nat) (E : YE) (p : APt) (a : SV) : Bool := match p.1 with
  | 0 => (match a with | .inl q => yin (yrg E q) p.2 | _ => false)
  | 1 => (match a with | .inr (.inr (.inl r)) => (match r with | .inl c => Nat.beq c p.2.1.toNat | _ => false) | _ => false)
  | 2 => (match a with | .inr (.inr (.inl r)) => Nat.beq (kdR kd r) p.2.1.toNat | _ => false)
  | 3 => sP E 1 a
  | _ => (match a with | .inr (.inr (.inr (.inl w))) => Nat.beq w p.2.1.toNat | _ => false)
theorem ymA_ok {G : List Int} {E : YE} (hE : yenv G E) {p : APt} {a : SV} {v : AV} (h : ymA kd E p a = true) (hv : sv kd G a v) : aOK kd p v := by
  obtain ⟨c, lo, hi⟩ := p
  match c, h with
  | 0, h =>
    rcases a with q | q | r | w | q | t
    · obtain ⟨x, e1, e2, e3⟩ := hv
      obtain ⟨b1, b2⟩ := yin_ok hE e3 h
      exact ⟨x, e1, e2, b1, b2⟩
    all_goals cases h
  | 1, h =>
    rcases a with q | q | r | w | q | t
    · cases h
    · cases h
    · obtain ⟨k, e1, e2⟩ := hv
      rcases r with cc | q
      · have h : cc = lo.toNat := Nat.eq_of_beq_eq_true h
        have e3 : k = cc := e2.2
        show v = vR lo.toNat ∧ lo.toNat < 466
        rw [← h, ← e3]
        exact ⟨e1, e2.1⟩
      · cases h
    all_goals cases h
  | 2, h =>
    rcases a with q | q | r | w | q | t
    · cases h
    · cases h
    · obtain ⟨k, e1, e2⟩ := hv
      have h : kdR kd r = lo.toNat := Nat.eq_of_beq_eq_true h
      exact ⟨k, e1, e2.1, by rw [rkc_kd e2]; exact h⟩
    all_goals cases h
  | 3, h => exact sP1_J (E := E) h hv
  | c + 4, h =>
    rcases a with q | q | r | w | q | t
    · cases h
    · cases h
    · cases h
    · have h : w = lo.toNat := Nat.eq_of_beq_eq_true h
      show v = vW lo.toNat
      rw [← h]
      exact hv
    all_goals cases h
noncomputable def ymAs (kd : Nat → Nat) (E : YE) (l : List APt) : List SV → Bool := List.rec (motive := fun _ => List SV → Bool) (fun m => match m with | [] => true | _ => false) (fun p _ ih m => match m with | a :: m => Bool.rec false (ih m) (ymA kd E p a) | [] => false) l
theorem ymAs_ok {G : List Int} {E : YE} (hE : yenv G E) : ∀ {l : List APt} {m : List SV} {w : List AV}, ymAs kd E l m = true → svs kd G m w → asOK kd l w := by
  intro l
  induction l with
  | nil =>
    intro m w h hm
    cases m with
    | nil => obtain rfl := svs_nil hm; trivial
    | cons _ _ => cases h
  | cons p l ih =>
    intro m w h hm
    cases m with
    | nil => cases h
    | cons a m =>
      obtain ⟨h1, h2⟩ := band (show (Bool.rec false (ymAs kd E l m) (ymA kd E p a) : Bool) = true from h)
      obtain ⟨v, w', rfl, g1, g2⟩ := svs_cons hm
      exact ⟨ymA_ok hE h1 g1, ih h2 g2⟩
/-- all that may be written there may be written here -/
noncomputable def ywsub (Wp : Nat → Int → Bool) (w : Wrg) : Bool := List.rec true (fun a _ ih => Bool.rec false ih (yall (a.2.2 + 1 - a.2.1).toNat a.2.1 (Wp a.1))) w
theorem ywsub_ok : ∀ {w : Wrg}, ywsub Wp w = true → ∀ κ v, inW w κ v = true → Wp κ v = true := by
  intro w
  induction w with
  | nil => intro _ κ v h; cases h
  | cons a w ih =>
    intro h κ v hv
    obtain ⟨h1, h2⟩ := band (show (Bool.rec false (ywsub Wp w) (yall (a.2.2 + 1 - a.2.1).toNat a.2.1 (Wp a.1)) : Bool) = true from h)
    obtain ⟨b, m1, m2, m3, m4⟩ := inW_mem hv
    rcases List.mem_cons.mp m1 with e | e
    · subst e
      rw [← m2]
      exact yall_ok h1 v m3 (by omega)
    · exact ih h2 κ v (inW_of m2 m3 m4 e)
theorem yout1_ok {G : List Int} {E : YE} (hE : yenv G E) {h : (RK × Aff) × Aff} {k i : Nat} (h1 : rkc kd G h.1.1 k) (h2 : yev G h.1.2 = some (i : Int)) : ∀ {w : Wrg}, yout1 kd E w h = true → inW w (kd k) i = false := by
  intro w hw
  cases hi : inW w (kd k) i with
  | false => rfl
  | true =>
    obtain ⟨a, m1, m2, m3, m4⟩ := inW_mem hi
    induction w with
    | nil => cases m1
    | cons d w ih =>
      obtain ⟨k1, k2⟩ := band (show (Bool.rec false (yout1 kd E w h) (Bool.rec true (match yrg E h.1.2 with | some r => Bool.rec (ile (d.2.2 + 1) r.1) true (ile (r.2 + 1) d.2.1) | none => false) (Nat.beq d.1 (kdR kd h.1.1))) : Bool) = true from hw)
      rcases List.mem_cons.mp m1 with e | e
      · subst e
        rw [m2, rkc_kd h1, Nat.beq_refl] at k1
        have k1 : (match yrg E h.1.2 with | some r => Bool.rec (ile (a.2.2 + 1) r.1) true (ile (r.2 + 1) a.2.1) | none => false : Bool) = true := k1
        cases hr : yrg E h.1.2 with
        | none => rw [hr] at k1; cases k1
        | some r =>
          rw [hr] at k1
          have q1 := yrg_ok hE h2 hr
          have k1 : (Bool.rec (ile (a.2.2 + 1) r.1) true (ile (r.2 + 1) a.2.1) : Bool) = true := k1
          cases hx : ile (r.2 + 1) a.2.1 with
          | true => have := ile_iff.mp hx; omega
          | false => rw [hx] at k1; have := ile_iff.mp (show ile (a.2.2 + 1) r.1 = true from k1); omega
      · exact ih k2 (inW_of m2 m3 m4 e) e
theorem yout_mem {E : YE} {w : Wrg} : ∀ {H : OV} {h : (RK × Aff) × Aff}, h ∈ yout kd E w H → h ∈ H ∧ yout1 kd E w h = true := by
  intro H
  induction H with
  | nil => intro h hm; cases hm
  | cons q H ih =>
    intro h hm
    have hm : h ∈ (Bool.rec (yout kd E w H) (q :: yout kd E w H) (yout1 kd E w q) : OV) := hm
    cases hb : yout1 kd E w q with
    | false => rw [hb] at hm; obtain ⟨h1, h2⟩ := ih hm; exact ⟨List.mem_cons_of_mem _ h1, h2⟩
    | true =>
      rw [hb] at hm
      rcases List.mem_cons.mp hm with e | e
      · rw [e]; exact ⟨List.mem_cons_self, hb⟩
      · obtain ⟨h1, h2⟩ := ih e; exact ⟨List.mem_cons_of_mem _ h1, h2⟩
/-- an end, as the caller has it -/
noncomputable def ypo (t : Nat × Nat) (a : Nat × Int × Int) (E : YE) (H : OV) : List Out := match a.1 with
  | 0 => [(t, (yfresh E a.2.1 a.2.2).1, sI (yfresh E a.2.1 a.2.2).2, H, 0)]
  | 1 => [(t, E, sT 0, H, 0)]
  | u + 2 => [(t, E, sT u, H, 0)]
noncomputable def ypst (E : YE) (H : OV) (p : Pst) : List Out := match yhS p.2.2.2 (yhH p.2.2.1 (E, H)).2 (yhH p.2.2.1 (E, H)).1 with
  | some E' => ypo p.1 p.2.1 E' (yhH p.2.2.1 (E, H)).2
  | none => []
noncomputable def ypsts (E : YE) (H : OV) (l : List Pst) : List Out := List.rec (motive := fun _ => List Out) [] (fun p _ ih => ypst E H p ++ ih) l
theorem ypsts_mem {E : YE} {H : OV} {p : Pst} {o : Out} (ho : o ∈ ypst E H p) : ∀ {l : List Pst}, p ∈ l → o ∈ ypsts E H l := by
  intro l
  induction l with
  | nil => intro h; cases h
  | cons a l ih =>
    intro h
    rcases List.mem_cons.mp h with e | e
    · rw [← e]; exact List.mem_append_left _ ho
    · exact List.mem_append_right _ (ih e)
/-- no int that the caller waits for is missing -/
noncomputable def ypsok (l : List Pst) : Bool := List.rec true (fun p _ ih => Bool.rec false ih (match p.2.1.1 with | 0 => Nat.beq p.1.1 0 | 1 => Nat.ble 1 p.1.1 | _ => true)) l
theorem ypsok_mem {p : Pst} : ∀ {l : List Pst}, ypsok l = true → p ∈ l → (match p.2.1.1 with | 0 => Nat.beq p.1.1 0 | 1 => Nat.ble 1 p.1.1 | _ => true : Bool) = true := by
  intro l
  induction l with
  | nil => intro _ h; cases h
  | cons a l ih =>
    intro h hm
    obtain ⟨h1, h2⟩ := band (show (Bool.rec false (ypsok l) (match a.2.1.1 with | 0 => Nat.beq a.1.1 0 | 1 => Nat.ble 1 a.1.1 | _ => true) : Bool) = true from h)
    rcases List.mem_cons.mp hm with e | e
    · rw [e]; exact h1
    · exact ih h2 e
noncomputable def yctr0 (kd : Nat → Nat) (Wp : Nat → Int → Bool) (ct : Ctr) (E : YE) (as : List SV) (H : OV) : Option (List Out) := Bool.rec none (some (ypsts E (yout kd E ct.2.2.2.1 H) ct.2.2.2.2)) (Bool.rec false (Bool.rec false (Bool.rec false (Bool.rec false (ypsok ct.2.2.2.2) (ywsub Wp ct.2.2.2.1)) (yckS 0 E H ct.2.2.1)) (yckF 0 E H ct.2.1)) (ymAs kd E ct.1 as))
noncomputable def yctr (kd : Nat → Nat) (sh : Nat → Sh) (bd : Nat → Int → Int × Int) (Wp : Nat → Int → Bool) (ct : Ctr) (E : YE) (as : List SV) (H : OV) : Option (List Out) := yctr0 kd Wp ct (ymat kd sh bd ct.2.1 (E, H)).1 as (ymat kd sh bd ct.2.1 (E, H)).2
theorem sT_any {kd kd' : Nat → Nat} {G G' : List Int} {t : Nat} {v : AV} (h : sv kd G (sT t) v) : sv kd' G' (sT t) v := h
theorem prFa_up {kd : Nat → Nat} {G : List Int} {l : List Fct} {M : Mem} (h : PrFa kd [] l M) : PrFa kd G l M := fun a ha => by
  obtain ⟨k, i, h1, h2⟩ := h a ha
  exact ⟨k, i, pl_mono (List.nil_prefix) h1, h2⟩
theorem prSu_up {kd : Nat → Nat} {G : List Int} {l : List Sct} {M : Mem} (h : PrSu kd [] l M) : PrSu kd G l M := fun a ha => by
  obtain ⟨k, i, k', i', h1, h2, h3⟩ := h a ha
  exact ⟨k, i, k', i', pl_mono (List.nil_prefix) h1, pl_mono (List.nil_prefix) h2, h3⟩
theorem yctr0_ok {call : Call} {y : Nat} {ct : Ctr} (hct : CtrOK kd sh rt bd Inv Ev call y ct) {E : YE} {as : List SV} {H : OV} {os : List Out} (h : yctr0 kd Wp ct E as H = some os) {G : List Int} {vs : List AV} {M : Mem} {P : Res → Prop} (hE : yenv G E) (hv : svs kd G as vs) (hH : ovl kd G H M) (hM : GM kd sh rt bd Wp Inv M0 M) (ho : ∀ o ∈ os, OutP kd sh rt bd Wp Inv M0 Ev G P o) : OKo (call y Ev 466 vs M) P := by
  unfold yctr0 at h
  cases hb : (Bool.rec false (Bool.rec false (Bool.rec false (Bool.rec false (ypsok ct.2.2.2.2) (ywsub Wp ct.2.2.2.1)) (yckS 0 E H ct.2.2.1)) (yckF 0 E H ct.2.1)) (ymAs kd E ct.1 as) : Bool) with
  | false => rw [hb] at h; cases h
  | true =>
    rw [hb] at h
    cases h
    obtain ⟨k1, hb⟩ := band hb
    obtain ⟨k2, hb⟩ := band hb
    obtain ⟨k3, hb⟩ := band hb
    obtain ⟨k4, k5⟩ := band hb
    have hp : ([] : List Int) <+: G := List.nil_prefix
    obtain ⟨r, e, r1, r2, r3, r4, r5, p, m1, m2, m3, m4, m5⟩ := hct vs M (ymAs_ok hE k1 hv) (yckF_ok hp hE hH k2) (yckS_ok hp hE hH k3) hM.1 hM.2.1
    refine ⟨r, e, ?_⟩
    have hH2 : ovl kd G (yout kd E ct.2.2.2.1 H) r.2.2.2.2.2.1 := by
      intro h9 hm
      obtain ⟨q1, q2⟩ := yout_mem hm
      obtain ⟨k', i', u1, u2, u3⟩ := hH h9 q1
      exact ⟨k', i', u1, u2, by rw [r5 k' u1.1 i' (yout1_ok hE u1 u2 q2)]; exact u3⟩
    have hG : GM kd sh rt bd Wp Inv M0 r.2.2.2.2.2.1 := by
      refine ⟨r3, r4, fun k' hk' i' hi' => ?_⟩
      rw [r5 k' hk' i' ?_]
      · exact hM.2.2 k' hk' i' hi'
      · cases hw : inW ct.2.2.2.1 (kd k') i' with
        | false => rfl
        | true => rw [ywsub_ok k4 _ _ hw] at hi'; cases hi'
    obtain ⟨G1, g1, g2, g3, -⟩ := yhH_ok (p := (E, yout kd E ct.2.2.2.1 H)) hE hH2 (prFa_up m4)
    obtain ⟨E2, G2, u1, u2, u3⟩ := yhS_ok g2 g3 (prSu_up m5)
    have hps := ypsok_mem k5 m1
    have eo : ypst E (yout kd E ct.2.2.2.1 H) p = ypo p.1 p.2.1 E2 (yhH p.2.2.1 (E, yout kd E ct.2.2.2.1 H)).2 := by
      unfold ypst
      rw [u1]
    have fin : ∀ (o : Out), o ∈ ypo p.1 p.2.1 E2 (yhH p.2.2.1 (E, yout kd E ct.2.2.2.1 H)).2 → OutP kd sh rt bd Wp Inv M0 Ev G P o := fun o hm => ho o (ypsts_mem (by rw [eo]; exact hm) m1)
    have hG1 := g1.trans u2
    have hov := ovl_mono u2 g3
    generalize (yhH p.2.2.1 (E, yout kd E ct.2.2.2.1 H)).2 = H9 at fin hov
    clear eo g3 u1 m1 m4 m5 k5 g1 u2 hH2
    obtain ⟨t, ⟨c, lo, hi⟩, fs, ss⟩ := p
    have m2 : r.1 = t := m2
    match c, m3, hps, fin with
    | 0, m3, hps, fin =>
      have hps : t.1 = 0 := Nat.eq_of_beq_eq_true hps
      obtain ⟨x, x1, x2, x3, x4⟩ := m3 (by rw [m2]; exact hps)
      obtain ⟨f1, f2⟩ := yfresh_ok u3 x3 x4
      have hp2 : G2 <+: G2 ++ [sg x] := List.prefix_append _ _
      exact fin _ List.mem_cons_self (G2 ++ [sg x]) r (hG1.trans hp2) f1 (ovl_mono hp2 hov) hG m2 r1 r2 (fun _ => ⟨x, x1, x2, f2⟩)
    | 1, m3, hps, fin =>
      have hps := Nat.le_of_ble_eq_true (show Nat.ble 1 t.1 = true from hps)
      exact fin _ List.mem_cons_self G2 r hG1 u3 hov hG m2 r1 r2 (fun q => absurd (show t.1 = 0 from by have e9 : r.1 = t := m2; rw [← e9]; exact q) (by omega))
    | u + 2, m3, hps, fin =>
      exact fin _ List.mem_cons_self G2 r hG1 u3 hov hG m2 r1 r2 (fun q => sT_any (kd := fun _ => 0) (G := []) (m3 q))
theorem yctr_ok {call : Call} {y : Nat} {ct : Ctr} (hct : CtrOK kd sh rt bd Inv Ev call y ct) {E : YE} {as : List SV} {H : OV} {os : List Out} (h : yctr kd sh bd Wp ct E as H = some os) {G : List Int} {vs : List AV} {M : Mem} {P : Res → Prop} (hE : yenv G E) (hv : svs kd G as vs) (hH : ovl kd G H M) (hM : GM kd sh rt bd Wp Inv M0 M) (ho : ∀ o ∈ os, OutP kd sh rt bd Wp Inv M0 Ev G P o) : OKo (call y Ev 466 vs M) P := by
  obtain ⟨Gm, m1, m2, m3⟩ := ymat_ok hM.1 (l := ct.2.1) (p := (E, H)) hE hH
  exact yctr0_ok hct h m2 (svs_mono m1 hv) m3 hM (fun o hm => outP_up m1 (ho o hm))
end CTR
