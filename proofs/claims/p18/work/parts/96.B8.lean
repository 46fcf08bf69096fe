/-! methods, by depth; contracts out of runs -/
/-- how many locals, the blocks, the loops' heads -/
abbrev MDT : Type := Nat × List DB × List (Nat × An)
noncomputable def yflat (as : List SV) : List SV := List.rec (motive := fun _ => List SV) [] (fun a _ ih => Bool.rec (a :: ih) (a :: sT 0 :: ih) (sC2 a)) as
noncomputable def yrepl (N : Nat) : List SV := Nat.rec [] (fun _ ih => sT 0 :: ih) N
noncomputable def yini (nL : Nat) (as : List SV) : List SV := yflat as ++ yrepl (nL - ylen (yflat as))
section METH
variable {kd : Nat → Nat} {sh : Nat → Sh} {rt : Nat → Nat → Nat} {bd : Nat → Int → Int × Int} {un : Nat → Bool} {Wp PR : Nat → Int → Bool} {Inv : Mem → Prop} {M0 : Mem} {Ev : Env9}
theorem yflat_ok {G : List Int} : ∀ {as : List SV} {vs : List AV}, svs kd G as vs → svs kd G (yflat as) (flatL vs) := by
  intro as
  induction as with
  | nil => intro vs h; obtain rfl := svs_nil h; trivial
  | cons a as ih =>
    intro vs h
    obtain ⟨v, w, rfl, g1, g2⟩ := svs_cons h
    have h1 := ih g2
    show svs kd G (Bool.rec (a :: yflat as) (a :: sT 0 :: yflat as) (sC2 a)) (Bool.rec (v :: flatL w) (v :: vW 3 :: flatL w) (isC2 v))
    rw [sC2_ok g1]
    cases sC2 a with
    | false => exact ⟨g1, h1⟩
    | true => exact ⟨g1, rfl, h1⟩
theorem svs_app {G : List Int} : ∀ {a b : List SV} {v w : List AV}, svs kd G a v → svs kd G b w → svs kd G (a ++ b) (v ++ w) := by
  intro a
  induction a with
  | nil => intro b v w h1 h2; obtain rfl := svs_nil h1; exact h2
  | cons x a ih =>
    intro b v w h1 h2
    obtain ⟨y, v', rfl, g1, g2⟩ := svs_cons h1
    exact ⟨g1, ih g2 h2⟩
theorem yrepl_ok {G : List Int} : ∀ N, svs kd G (yrepl N) (repA (vW 3) N) := by
  intro N
  induction N with
  | zero => trivial
  | succ N ih => exact ⟨rfl, ih⟩
theorem yini_ok {G : List Int} {nL : Nat} {as : List SV} {vs : List AV} (h : svs kd G as vs) : svs kd G (yini nL as) (iniL nL vs) := by
  have h1 := yflat_ok h
  have e : ylen (yflat as) = (flatL vs).length := by rw [ylen_eq, svs_len h1]
  show svs kd G (yflat as ++ yrepl (nL - ylen (yflat as))) (flatL vs ++ repA (vW 3) (nL - (flatL vs).length))
  rw [e]
  exact svs_app h1 (yrepl_ok _)
abbrev Bo9 : Type := Nat → Call → Env9 → Nat → List AV → Mem → OR
/-- the numbers are the method -/
def MDOK (bo : Bo9) (y : Nat) (md : MDT) : Prop := ∃ (d : Nat) (ct : TrT Blk d), (∀ b q, yat md.2.1 b = some q → tget d ct b = dnB 0 q) ∧ ∀ (call : Call) (E : Env9) (n : Nat) (as : List AV) (M : Mem), bo y call E n as M = gd (Nat.ble (flatL as).length md.1) (runF call d ct 1000000000000 0 E n 0 (iniL md.1 as) [] M)
noncomputable def xanL (l : List (Nat × An)) (b : Nat) : Option An := List.rec none (fun a _ ih => Bool.rec ih (some a.2) (Nat.beq a.1 b)) l
noncomputable def xcode (kd : Nat → Nat) (sh : Nat → Sh) (rt : Nat → Nat → Nat) (bd : Nat → Int → Int × Int) (un : Nat → Bool) (Wp PR : Nat → Int → Bool) (l : List DB) (b : Nat) : Option XBl := match yat l b with | some q => some (xiB kd sh rt bd un Wp PR q) | none => none
noncomputable def xmeth (kd : Nat → Nat) (sh : Nat → Sh) (rt : Nat → Nat → Nat) (bd : Nat → Int → Int × Int) (un : Nat → Bool) (Wp PR : Nat → Int → Bool) (md : MDT) (xc : XC) (E : YE) (as : List SV) (H : OV) : Option (List Out) :=
  Bool.rec none (match xrun kd sh bd (xcode kd sh rt bd un Wp PR md.2.1) (xanL md.2.2) xc 400 [] 0 (E, yini md.1 as, [], H, 0) with
    | some r => Bool.rec none (some r.2) (Nat.ble r.1 1000000000000)
    | none => none) (Nat.ble (ylen (yflat as)) md.1)
theorem xmeth_ok (hu : ∀ κ v, un κ = true → bd κ v = bd κ 0) (hI : Hang kd PR Inv) {bo : Bo9} {y : Nat} {md : MDT} (hmd : MDOK bo y md) {call : Call} {xc : XC} (hC : CS kd sh rt bd Wp Inv M0 Ev call xc) {E : YE} {as : List SV} {H : OV} {os : List Out} (h : xmeth kd sh rt bd un Wp PR md xc E as H = some os) {G : List Int} {vs : List AV} {M : Mem} {P : Res → Prop} (hE : yenv G E) (hv : svs kd G as vs) (hH : ovl kd G H M) (hM : GM kd sh rt bd Wp Inv M0 M) (ho : ∀ o ∈ os, OutP kd sh rt bd Wp Inv M0 Ev G P o) : OKo (bo y call Ev 466 vs M) P := by
  obtain ⟨d, ct, h1, h2⟩ := hmd
  unfold xmeth at h
  cases hb : Nat.ble (ylen (yflat as)) md.1 with
  | false => rw [hb] at h; cases h
  | true =>
    rw [hb] at h
    cases hr : xrun kd sh bd (xcode kd sh rt bd un Wp PR md.2.1) (xanL md.2.2) xc 400 [] 0 (E, yini md.1 as, [], H, 0) with
    | none => rw [hr] at h; cases h
    | some r =>
      rw [hr] at h
      have h : (Bool.rec none (some r.2) (Nat.ble r.1 1000000000000) : Option (List Out)) = some os := h
      cases hc : Nat.ble r.1 1000000000000 with
      | false => rw [hc] at h; cases h
      | true =>
        rw [hc] at h
        cases h
        have e : ylen (yflat as) = (flatL vs).length := by rw [ylen_eq, svs_len (yflat_ok hv)]
        rw [h2, ← e, hb]
        have hk := xrun_ok (Zo := 0) (P := P) (ans := xanL md.2.2) hC (code := xcode kd sh rt bd un Wp PR md.2.1) (ct := ct) (fun b xl hx => by
          unfold xcode at hx
          cases hq : yat md.2.1 b with
          | none => rw [hq] at hx; cases hx
          | some q =>
            rw [hq] at hx
            cases hx
            rw [h1 b q hq]
            exact xiB_ok (Z := 0) hu hI (Nat.le_refl _) q) 400 [] 0 1000000000000 r.1 G (Nat.le_of_ble_eq_true hc) (fun rc hm => by cases hm)
        exact ks_use hk (σ := (E, yini md.1 as, [], H, 0)) (L := iniL md.1 vs) (S := []) hr (Nat.le_refl _) ho (List.prefix_refl _) ⟨hE, yini_ok hv, trivial, hH⟩ hM
noncomputable def yctrs (kd : Nat → Nat) (sh : Nat → Sh) (bd : Nat → Int → Int × Int) (Wp : Nat → Int → Bool) (E : YE) (as : List SV) (H : OV) (l : List Ctr) : Option (List Out) := List.rec none (fun c _ ih => match yctr kd sh bd Wp c E as H with | some os => some os | none => ih) l
theorem yctrs_mem {E : YE} {as : List SV} {H : OV} {os : List Out} : ∀ {l : List Ctr}, yctrs kd sh bd Wp E as H l = some os → ∃ c ∈ l, yctr kd sh bd Wp c E as H = some os := by
  intro l
  induction l with
  | nil => intro h; cases h
  | cons c l ih =>
    intro h
    have h : (match yctr kd sh bd Wp c E as H with | some os => some os | none => yctrs kd sh bd Wp E as H l : Option (List Out)) = some os := h
    cases hc : yctr kd sh bd Wp c E as H with
    | some os' => rw [hc] at h; cases h; exact ⟨c, List.mem_cons_self, hc⟩
    | none => rw [hc] at h; obtain ⟨c', h1, h2⟩ := ih h; exact ⟨c', List.mem_cons_of_mem _ h1, h2⟩
noncomputable def xM (kd : Nat → Nat) (sh : Nat → Sh) (rt : Nat → Nat → Nat) (bd : Nat → Int → Int × Int) (un : Nat → Bool) (Wp PR : Nat → Int → Bool) (MT : Nat → Option MDT) (CT : Nat → List Ctr) (D : Nat) : XC := Nat.rec (motive := fun _ => XC) (fun y E as H => yctrs kd sh bd Wp E as H (CT y)) (fun _ ih y E as H => match yctrs kd sh bd Wp E as H (CT y) with
  | some os => some os
  | none => (match MT y with | some md => xmeth kd sh rt bd un Wp PR md ih E as H | none => none)) D
theorem xM_ok (hu : ∀ κ v, un κ = true → bd κ v = bd κ 0) (hI : Hang kd PR Inv) {bo : Bo9} {R : Nat → Call} (hR : ∀ k y E n as M, R (k + 1) y E n as M = bo y (R k) E n as M) {MT : Nat → Option MDT} (hMT : ∀ y md, MT y = some md → MDOK bo y md) {CT : Nat → List Ctr} {b : Nat} (hCT : ∀ y, ∀ ct ∈ CT y, ∀ k, b ≤ k → CtrOK kd sh rt bd Inv Ev (R k) y ct) : ∀ D b', b ≤ b' → CS kd sh rt bd Wp Inv M0 Ev (R (b' + D)) (xM kd sh rt bd un Wp PR MT CT D) := by
  intro D
  induction D with
  | zero =>
    intro b' hb y E as H os h G vs M P hE hv hH hM ho
    obtain ⟨c, h1, h2⟩ := yctrs_mem (show yctrs kd sh bd Wp E as H (CT y) = some os from h)
    exact yctr_ok (hCT y c h1 b' hb) h2 hE hv hH hM ho
  | succ D ih =>
    intro b' hb y E as H os h G vs M P hE hv hH hM ho
    have h : (match yctrs kd sh bd Wp E as H (CT y) with | some os => some os | none => (match MT y with | some md => xmeth kd sh rt bd un Wp PR md (xM kd sh rt bd un Wp PR MT CT D) E as H | none => none) : Option (List Out)) = some os := h
    cases hc : yctrs kd sh bd Wp E as H (CT y) with
    | some os' =>
      rw [hc] at h
      cases h
      obtain ⟨c, h1, h2⟩ := yctrs_mem hc
      exact yctr_ok (hCT y c h1 _ (by omega)) h2 hE hv hH hM ho
    | none =>
      rw [hc] at h
      cases hm : MT y with
      | none => rw [hm] at h; cases h
      | some md =>
        rw [hm] at h
        show OKo (R (b' + D + 1) y Ev 466 vs M) P
        rw [hR]
        exact xmeth_ok hu hI (hMT y md hm) (ih b' hb) h hE hv hH hM ho
/-- the arguments of a contract -/
noncomputable def yarg (E : YE) (p : APt) : YE × SV := match p.1 with
  | 0 => ((yfresh E p.2.1 p.2.2).1, sI (yfresh E p.2.1 p.2.2).2)
  | 1 => (E, sR (.inl p.2.1.toNat))
  | 2 => yref E p.2.1.toNat
  | 3 => (E, sT 3)
  | _ => (E, sW p.2.1.toNat)
theorem yarg_ok {G : List Int} {E : YE} (hE : yenv G E) {p : APt} {v : AV} (h : aOK kd p v) : ∃ G', G <+: G' ∧ yenv G' (yarg E p).1 ∧ sv kd G' (yarg E p).2 v := by
  obtain ⟨c, lo, hi⟩ := p
  match c, h with
  | 0, h =>
    obtain ⟨x, e1, e2, e3, e4⟩ := h
    obtain ⟨f1, f2⟩ := yfresh_ok hE e3 e4
    exact ⟨_, List.prefix_append _ _, f1, x, e1, e2, f2⟩
  | 1, h => exact ⟨G, List.prefix_refl _, hE, _, h.1, h.2, rfl⟩
  | 2, h =>
    obtain ⟨k, e1, e2, e3⟩ := h
    subst e1
    obtain ⟨f1, f2⟩ := yref_ok (kd := kd) hE e3 e2
    exact ⟨_, List.prefix_append _ _, f1, f2⟩
  | 3, h => exact ⟨G, List.prefix_refl _, hE, h⟩
  | c + 4, h => exact ⟨G, List.prefix_refl _, hE, h⟩
noncomputable def yargs (l : List APt) : YE → YE × List SV := List.rec (motive := fun _ => YE → YE × List SV) (fun E => (E, [])) (fun p _ ih E => ((ih (yarg E p).1).1, (yarg E p).2 :: (ih (yarg E p).1).2)) l
theorem yargs_ok : ∀ {l : List APt} {G : List Int} {E : YE} {vs : List AV}, yenv G E → asOK kd l vs → ∃ G', G <+: G' ∧ yenv G' (yargs l E).1 ∧ svs kd G' (yargs l E).2 vs := by
  intro l
  induction l with
  | nil =>
    intro G E vs hE h
    cases vs with
    | nil => exact ⟨G, List.prefix_refl _, hE, trivial⟩
    | cons _ _ => exact h.elim
  | cons p l ih =>
    intro G E vs hE h
    cases vs with
    | nil => exact h.elim
    | cons v vs =>
      obtain ⟨G1, g1, g2, g3⟩ := yarg_ok hE h.1
      obtain ⟨G2, k1, k2, k3⟩ := ih g2 h.2
      exact ⟨G2, g1.trans k1, k2, sv_mono k1 g3, k3⟩
/-- an end is among those promised -/
noncomputable def ypm (o : Out) (p : Pst) : Bool := Bool.rec false (Bool.rec false (Bool.rec false (Bool.rec false (Bool.rec (match p.2.1.1 with
  | 0 => (match o.2.2.1 with | .inl q => yin (yrg o.2.1 q) p.2.1.2 | _ => false)
  | 1 => true
  | t + 2 => (match t with
    | 3 => sP o.2.1 1 o.2.2.1
    | _ => isT o.2.2.1 t)) true (Nat.ble 1 o.1.1)) (yckS 0 o.2.1 o.2.2.2.1 p.2.2.2)) (yckF 0 o.2.1 o.2.2.2.1 p.2.2.1)) (Nat.beq o.1.2 p.1.2)) (Nat.beq o.1.1 p.1.1)
theorem ypm_ok {G : List Int} {o : Out} {p : Pst} {r : Res} (h : ypm o p = true) (h2 : yenv G o.2.1) (h3 : ovl kd G o.2.2.2.1 r.2.2.2.2.2.1) (h4 : r.1 = o.1) (h5 : r.1.1 = 0 → sv kd G o.2.2.1 r.2.2.1) : pOK kd p r := by
  obtain ⟨k1, h⟩ := band h
  obtain ⟨k2, h⟩ := band h
  obtain ⟨k3, h⟩ := band h
  obtain ⟨k4, k5⟩ := band h
  have hp : ([] : List Int) <+: G := List.nil_prefix
  refine ⟨?_, fun h0 => ?_, yckF_ok hp h2 h3 k3, yckS_ok hp h2 h3 k4⟩
  · rw [h4]
    obtain ⟨⟨o1, o2⟩, o3⟩ := o
    obtain ⟨⟨p1, p2⟩, p3⟩ := p
    have k1 : o1 = p1 := Nat.eq_of_beq_eq_true k1
    have k2 : o2 = p2 := Nat.eq_of_beq_eq_true k2
    rw [k1, k2]
  · have hv := h5 h0
    rw [h4] at h0
    have hb : Nat.ble 1 o.1.1 = false := by
      cases hq : Nat.ble 1 o.1.1 with
      | false => rfl
      | true => have := Nat.le_of_ble_eq_true hq; omega
    rw [hb] at k5
    obtain ⟨t, ⟨c, lo, hi⟩, fs, ss⟩ := p
    match c, k5 with
    | 0, k5 =>
      cases ho : o.2.2.1 with
      | inl q =>
        have k5 : (match o.2.2.1 with | .inl q => yin (yrg o.2.1 q) (lo, hi) | _ => false : Bool) = true := k5
        rw [ho] at k5 hv
        obtain ⟨x, e1, e2, e3⟩ := hv
        obtain ⟨b1, b2⟩ := yin_ok h2 e3 k5
        exact ⟨x, e1, e2, b1, b2⟩
      | inr q =>
        have k5 : (match o.2.2.1 with | .inl q => yin (yrg o.2.1 q) (lo, hi) | _ => false : Bool) = true := k5
        rw [ho] at k5
        cases k5
    | 1, _ => trivial
    | c + 2, k5 =>
      match c, k5 with
      | 3, k5 => exact sP1_J k5 hv
      | 0, k5 => have e := isT_eq k5; rw [e] at hv; exact hv
      | 1, k5 => have e := isT_eq k5; rw [e] at hv; exact hv
      | 2, k5 => have e := isT_eq k5; rw [e] at hv; exact hv
      | c + 4, k5 => have e := isT_eq k5; rw [e] at hv; exact hv
noncomputable def yanyp (o : Out) (l : List Pst) : Bool := List.rec false (fun p _ ih => Bool.rec ih true (ypm o p)) l
noncomputable def yallo (l : List Pst) (os : List Out) : Bool := List.rec true (fun o _ ih => Bool.rec false ih (yanyp o l)) os
theorem yanyp_mem {o : Out} : ∀ {l : List Pst}, yanyp o l = true → ∃ p ∈ l, ypm o p = true := by
  intro l
  induction l with
  | nil => intro h; cases h
  | cons p l ih =>
    intro h
    have h : (Bool.rec (yanyp o l) true (ypm o p) : Bool) = true := h
    cases hb : ypm o p with
    | true => exact ⟨p, List.mem_cons_self, hb⟩
    | false => rw [hb] at h; obtain ⟨q, h1, h2⟩ := ih h; exact ⟨q, List.mem_cons_of_mem _ h1, h2⟩
theorem yallo_mem {l : List Pst} : ∀ {os : List Out}, yallo l os = true → ∀ o ∈ os, yanyp o l = true := by
  intro os
  induction os with
  | nil => intro _ o h; cases h
  | cons a os ih =>
    intro h o hm
    obtain ⟨h1, h2⟩ := band (show (Bool.rec false (yallo l os) (yanyp a l) : Bool) = true from h)
    rcases List.mem_cons.mp hm with e | e
    · rw [e]; exact h1
    · exact ih h2 o e
/-- a contract holds: the run from its start ends as it says -/
noncomputable def xctr (kd : Nat → Nat) (sh : Nat → Sh) (rt : Nat → Nat → Nat) (bd : Nat → Int → Int × Int) (un : Nat → Bool) (PR : Nat → Int → Bool) (MT : Nat → Option MDT) (CT : Nat → List Ctr) (D : Nat) (md : MDT) (ct : Ctr) : Bool :=
  match yhS ct.2.2.1 (yhH ct.2.1 ((yargs ct.1 []).1, [])).2 (yhH ct.2.1 ((yargs ct.1 []).1, [])).1 with
  | some E => (match xmeth kd sh rt bd un (inW ct.2.2.2.1) PR md (xM kd sh rt bd un (inW ct.2.2.2.1) PR MT CT D) E (yargs ct.1 []).2 (yhH ct.2.1 ((yargs ct.1 []).1, [])).2 with
    | some os => yallo ct.2.2.2.2 os
    | none => false)
  | none => true
theorem xctr_ok (hu : ∀ κ v, un κ = true → bd κ v = bd κ 0) (hI : Hang kd PR Inv) {bo : Bo9} {R : Nat → Call} (hR : ∀ k y E n as M, R (k + 1) y E n as M = bo y (R k) E n as M) {MT : Nat → Option MDT} (hMT : ∀ y md, MT y = some md → MDOK bo y md) {CT : Nat → List Ctr} {b : Nat} (hCT : ∀ y, ∀ ct ∈ CT y, ∀ k, b ≤ k → CtrOK kd sh rt bd Inv Ev (R k) y ct) {y : Nat} {md : MDT} (hmd : MDOK bo y md) {ct : Ctr} {D : Nat} (h : xctr kd sh rt bd un PR MT CT D md ct = true) : ∀ k, b + D + 1 ≤ k → CtrOK kd sh rt bd Inv Ev (R k) y ct := by
  intro k hk vs M h1 h2 h3 hT hInv
  obtain ⟨b', rfl⟩ : ∃ b', k = b' + D + 1 := ⟨k - D - 1, by omega⟩
  have hE0 : yenv [] ([] : YE) := ⟨rfl, fun g e hg => by simp at hg⟩
  obtain ⟨G1, g1, g2, g3⟩ := yargs_ok hE0 h1
  obtain ⟨G2, k1, k2, k3, -⟩ := yhH_ok (p := ((yargs ct.1 []).1, [])) (M := M) g2 (fun q hq => by cases hq) (prFa_up h2)
  obtain ⟨E, G3, u1, u2, u3⟩ := yhS_ok k2 k3 (prSu_up h3)
  unfold xctr at h
  rw [u1] at h
  have h : (match xmeth kd sh rt bd un (inW ct.2.2.2.1) PR md (xM kd sh rt bd un (inW ct.2.2.2.1) PR MT CT D) E (yargs ct.1 []).2 (yhH ct.2.1 ((yargs ct.1 []).1, [])).2 with
    | some os => yallo ct.2.2.2.2 os
    | none => false) = true := h
  cases hx : xmeth kd sh rt bd un (inW ct.2.2.2.1) PR md (xM kd sh rt bd un (inW ct.2.2.2.1) PR MT CT D) E (yargs ct.1 []).2 (yhH ct.2.1 ((yargs ct.1 []).1, [])).2 with
  | none => rw [hx] at h; cases h
  | some os =>
    rw [hx] at h
    rw [hR]
    refine xmeth_ok (M0 := M) hu hI hmd (xM_ok hu hI hR hMT hCT D b' (by omega)) hx u3 (svs_mono (k1.trans u2) g3) (ovl_mono u2 k3) ⟨hT, hInv, fun k' _ i' _ => rfl⟩ (fun o hm G r q1 q2 q3 q4 q5 q6 q7 q8 => ?_)
    obtain ⟨p, p1, p2⟩ := yanyp_mem (yallo_mem h o hm)
    exact ⟨q6, q7, q4.1, q4.2.1, q4.2.2, p, p1, ypm_ok p2 q2 q3 q5 q8⟩
end METH
