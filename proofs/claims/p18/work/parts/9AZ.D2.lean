/-! stations: what holds at a block; pieces of a method between them -/
/-- the locals (none: anything but a long), facts, sums -/
abbrev SPt : Type := List (Option APt) × List Fct × List Sct
section STA
variable {kd : Nat → Nat} {sh : Nat → Sh} {rt : Nat → Nat → Nat} {bd : Nat → Int → Int × Int} {un : Nat → Bool} {Wp PR : Nat → Int → Bool} {Inv : Mem → Prop} {M0 : Mem} {Ev : Env9}
def lOK (kd : Nat → Nat) : List (Option APt) → List AV → Prop
  | [], [] => True
  | p :: l, v :: w => (match p with | none => isC2 v = false | some p => aOK kd p v) ∧ lOK kd l w
  | _, _ => False
def SpOK (kd : Nat → Nat) (p : SPt) (L : List AV) (M : Mem) : Prop := lOK kd p.1 L ∧ PrFa kd [] p.2.1 M ∧ PrSu kd [] p.2.2 M
noncomputable def ylA1 (kd : Nat → Nat) (E : YE) (p : Option APt) (a : SV) : Bool := match p with | none => snot (sC2 a) | some p => ymA kd E p a
noncomputable def ylA (kd : Nat → Nat) (E : YE) (l : List (Option APt)) : List SV → Bool := List.rec (motive := fun _ => List SV → Bool) (fun m => match m with | [] => true | _ => false) (fun p _ ih m => match m with | a :: m => Bool.rec false (ih m) (ylA1 kd E p a) | [] => false) l
theorem ylA_ok {G : List Int} {E : YE} (hE : yenv G E) : ∀ {l : List (Option APt)} {m : List SV} {w : List AV}, ylA kd E l m = true → svs kd G m w → lOK kd l w := by
  intro l
  induction l with
  | nil =>
    intro m w h hm
    cases m with
    | nil => obtain rfl := svs_nil hm; trivial
    | cons _ _ => cases h
  | cons p l ih =>
    intro m w h hm
    cases m with
    | nil => cases h
    | cons a m =>
      obtain ⟨h1, h2⟩ := band (show (Bool.rec false (ylA kd E l m) (ylA1 kd E p a) : Bool) = true from h)
      obtain ⟨v, w', rfl, g1, g2⟩ := svs_cons hm
      refine ⟨?_, ih h2 g2⟩
      cases p with
      | none => show isC2 v = false; rw [sC2_ok g1]; exact snot_t h1
      | some p => exact ymA_ok hE h1 g1
/-- a state is as the station wants it -/
noncomputable def ysp (kd : Nat → Nat) (sh : Nat → Sh) (bd : Nat → Int → Int × Int) (p : SPt) (σ : SS) : Bool := match σ.2.2.1 with
  | [] => Bool.rec false (Bool.rec false (Bool.rec false (yckS 0 (ymat kd sh bd p.2.1 (σ.1, σ.2.2.2.1)).1 (ymat kd sh bd p.2.1 (σ.1, σ.2.2.2.1)).2 p.2.2) (yckF 0 (ymat kd sh bd p.2.1 (σ.1, σ.2.2.2.1)).1 (ymat kd sh bd p.2.1 (σ.1, σ.2.2.2.1)).2 p.2.1)) (ylA kd σ.1 p.1 σ.2.1)) (Nat.beq σ.2.2.2.2 0)
  | _ => false
theorem ysp_ok {p : SPt} {σ : SS} (h : ysp kd sh bd p σ = true) {G : List Int} {L S : List AV} {M : Mem} (hS : Sat kd G σ L S M) (hT : TI kd sh rt bd M) : S = [] ∧ σ.2.2.2.2 = 0 ∧ SpOK kd p L M := by
  obtain ⟨E, Ls, Ss, H, z⟩ := σ
  cases Ss with
  | cons _ _ => cases h
  | nil =>
    obtain ⟨k1, h⟩ := band (show (Bool.rec false (Bool.rec false (Bool.rec false (yckS 0 (ymat kd sh bd p.2.1 (E, H)).1 (ymat kd sh bd p.2.1 (E, H)).2 p.2.2) (yckF 0 (ymat kd sh bd p.2.1 (E, H)).1 (ymat kd sh bd p.2.1 (E, H)).2 p.2.1)) (ylA kd E p.1 Ls)) (Nat.beq z 0) : Bool) = true from h)
    obtain ⟨k2, h⟩ := band h
    obtain ⟨k3, k4⟩ := band h
    obtain ⟨h1, h2, h3, h4⟩ := hS
    obtain ⟨Gm, m1, m2, m3⟩ := ymat_ok hT (l := p.2.1) (p := (E, H)) h1 h4
    have hp : ([] : List Int) <+: Gm := List.nil_prefix
    exact ⟨svs_nil h3, Nat.eq_of_beq_eq_true k1, ylA_ok h1 k2 h2, yckF_ok hp m2 m3 k3, yckS_ok hp m2 m3 k4⟩
noncomputable def yspA (kd : Nat → Nat) (sh : Nat → Sh) (bd : Nat → Int → Int × Int) (σ : SS) (l : List SPt) : Bool := List.rec false (fun p _ ih => Bool.rec ih true (ysp kd sh bd p σ)) l
theorem yspA_ok {σ : SS} {G : List Int} {L S : List AV} {M : Mem} (hS : Sat kd G σ L S M) (hT : TI kd sh rt bd M) : ∀ {l : List SPt}, yspA kd sh bd σ l = true → S = [] ∧ σ.2.2.2.2 = 0 ∧ ∃ p ∈ l, SpOK kd p L M := by
  intro l
  induction l with
  | nil => intro h; cases h
  | cons p l ih =>
    intro h
    have h : (Bool.rec (yspA kd sh bd σ l) true (ysp kd sh bd p σ) : Bool) = true := h
    cases hb : ysp kd sh bd p σ with
    | true =>
      obtain ⟨h1, h2, h3⟩ := ysp_ok hb hS hT
      exact ⟨h1, h2, p, List.mem_cons_self, h3⟩
    | false =>
      rw [hb] at h
      obtain ⟨h1, h2, q, h3, h4⟩ := ih h
      exact ⟨h1, h2, q, List.mem_cons_of_mem _ h3, h4⟩
/-- the state that a station stands for: what is one number stands as that number -/
noncomputable def yfr9 (E : YE) (lo hi : Int) : YE × Aff := Bool.rec (yfresh E lo hi) (E, (0, 0, lo)) (ieq lo hi)
theorem yfr9_ok {G : List Int} {E : YE} (hE : yenv G E) {lo hi x : Int} (h1 : lo ≤ x) (h2 : x ≤ hi) : ∃ G', G <+: G' ∧ yenv G' (yfr9 E lo hi).1 ∧ yev G' (yfr9 E lo hi).2 = some x := by
  unfold yfr9
  cases h : ieq lo hi with
  | true =>
    have e := ieq_iff.mp h
    exact ⟨G, List.prefix_refl _, hE, by show yev G (0, 0, lo) = some x; rw [yev_c]; congr 1; omega⟩
  | false =>
    obtain ⟨f1, f2⟩ := yfresh_ok hE h1 h2
    exact ⟨_, List.prefix_append _ _, f1, f2⟩
noncomputable def yarg9 (E : YE) (p : APt) : YE × SV := match p.1 with
  | 0 => ((yfr9 E p.2.1 p.2.2).1, sI (yfr9 E p.2.1 p.2.2).2)
  | _ => yarg E p
theorem yarg9_ok {G : List Int} {E : YE} (hE : yenv G E) {p : APt} {v : AV} (h : aOK kd p v) : ∃ G', G <+: G' ∧ yenv G' (yarg9 E p).1 ∧ sv kd G' (yarg9 E p).2 v := by
  obtain ⟨c, lo, hi⟩ := p
  match c, h with
  | 0, h =>
    obtain ⟨x, e1, e2, e3, e4⟩ := h
    obtain ⟨G', f0, f1, f2⟩ := yfr9_ok hE e3 e4
    exact ⟨G', f0, f1, x, e1, e2, f2⟩
  | c + 1, h => exact yarg_ok hE h
noncomputable def ysL1 (E : YE) (p : Option APt) : YE × SV := match p with | none => (E, sT 0) | some p => yarg9 E p
noncomputable def ysL (l : List (Option APt)) : YE → YE × List SV := List.rec (motive := fun _ => YE → YE × List SV) (fun E => (E, [])) (fun p _ ih E => ((ih (ysL1 E p).1).1, (ysL1 E p).2 :: (ih (ysL1 E p).1).2)) l
theorem ysL_ok : ∀ {l : List (Option APt)} {G : List Int} {E : YE} {vs : List AV}, yenv G E → lOK kd l vs → ∃ G', G <+: G' ∧ yenv G' (ysL l E).1 ∧ svs kd G' (ysL l E).2 vs := by
  intro l
  induction l with
  | nil =>
    intro G E vs hE h
    cases vs with
    | nil => exact ⟨G, List.prefix_refl _, hE, trivial⟩
    | cons _ _ => exact h.elim
  | cons p l ih =>
    intro G E vs hE h
    cases vs with
    | nil => exact h.elim
    | cons v vs =>
      have h1 : ∃ G', G <+: G' ∧ yenv G' (ysL1 E p).1 ∧ sv kd G' (ysL1 E p).2 v := by
        cases p with
        | none => exact ⟨G, List.prefix_refl _, hE, h.1⟩
        | some p => exact yarg9_ok hE h.1
      obtain ⟨G1, g1, g2, g3⟩ := h1
      obtain ⟨G2, k1, k2, k3⟩ := ih g2 h.2
      exact ⟨G2, g1.trans k1, k2, sv_mono k1 g3, k3⟩
noncomputable def yhP (l : List Fct) : YE × OV → YE × OV := List.rec (motive := fun _ => YE × OV → YE × OV) (fun p => p) (fun a _ ih p => ih ((yfr9 p.1 a.2.1 a.2.2).1, (a.1, (yfr9 p.1 a.2.1 a.2.2).2) :: p.2)) l
theorem yhP_ok {M : Mem} : ∀ {l : List Fct} {G : List Int} {p : YE × OV}, yenv G p.1 → ovl kd G p.2 M → PrFa kd [] l M → ∃ G', G <+: G' ∧ yenv G' (yhP l p).1 ∧ ovl kd G' (yhP l p).2 M := by
  intro l
  induction l with
  | nil => intro G p h1 h2 _; exact ⟨G, List.prefix_refl _, h1, h2⟩
  | cons a l ih =>
    intro G p h1 h2 h3
    obtain ⟨k, i, e1, e2, e3⟩ := h3 a List.mem_cons_self
    obtain ⟨G1, g1, g2, g3⟩ := yfr9_ok h1 e2 e3
    have e1 := pl_mono (G' := G1) List.nil_prefix e1
    obtain ⟨G2, k1, k2, k3⟩ := ih (G := G1) (p := ((yfr9 p.1 a.2.1 a.2.2).1, (a.1, (yfr9 p.1 a.2.1 a.2.2).2) :: p.2)) g2 (fun h hm => by
      rcases List.mem_cons.mp hm with e | e
      · subst e
        exact ⟨k, i, e1.1, e1.2, g3⟩
      · exact ovl_mono g1 h2 h e) (fun b hb => h3 b (List.mem_cons_of_mem _ hb))
    exact ⟨G2, g1.trans k1, k2, k3⟩
noncomputable def yspS (p : SPt) : Option SS := match yhS p.2.2 (yhP p.2.1 ((ysL p.1 []).1, [])).2 (yhP p.2.1 ((ysL p.1 []).1, [])).1 with
  | some E => some (E, (ysL p.1 []).2, [], (yhP p.2.1 ((ysL p.1 []).1, [])).2, 0)
  | none => none
theorem yspS_ok {p : SPt} {L : List AV} {M : Mem} (h : SpOK kd p L M) : ∃ σ G, yspS p = some σ ∧ Sat kd G σ L [] M ∧ σ.2.2.2.2 = 0 := by
  obtain ⟨h1, h2, h3⟩ := h
  have hE0 : yenv [] ([] : YE) := ⟨rfl, fun g e hg => by simp at hg⟩
  obtain ⟨G1, g1, g2, g3⟩ := ysL_ok hE0 h1
  obtain ⟨G2, k1, k2, k3⟩ := yhP_ok (p := ((ysL p.1 []).1, [])) (M := M) g2 (fun q hq => by cases hq) h2
  obtain ⟨E, G3, u1, u2, u3⟩ := yhS_ok k2 k3 (prSu_up h3)
  refine ⟨(E, (ysL p.1 []).2, [], (yhP p.2.1 ((ysL p.1 []).1, [])).2, 0), G3, by unfold yspS; rw [u1], ⟨u3, svs_mono (k1.trans u2) g3, trivial, ovl_mono u2 k3⟩, rfl⟩
/-- block by block what is wanted there -/
noncomputable def stpL (kd : Nat → Nat) (sh : Nat → Sh) (bd : Nat → Int → Int × Int) (sts : List (Nat × List SPt)) (b : Nat) : Option (SS → Bool) := List.rec none (fun q _ ih => Bool.rec ih (some (fun σ => yspA kd sh bd σ q.2)) (Nat.beq q.1 b)) sts
theorem stpL_mem {b : Nat} {k : SS → Bool} : ∀ {sts : List (Nat × List SPt)}, stpL kd sh bd sts b = some k → ∃ q ∈ sts, q.1 = b ∧ k = fun σ => yspA kd sh bd σ q.2 := by
  intro sts
  induction sts with
  | nil => intro h; cases h
  | cons q sts ih =>
    intro h
    have h : (Bool.rec (stpL kd sh bd sts b) (some (fun σ => yspA kd sh bd σ q.2)) (Nat.beq q.1 b) : Option (SS → Bool)) = some k := h
    cases hb : Nat.beq q.1 b with
    | true => rw [hb] at h; cases h; exact ⟨q, List.mem_cons_self, Nat.eq_of_beq_eq_true hb, rfl⟩
    | false =>
      rw [hb] at h
      obtain ⟨q', h1, h2⟩ := ih h
      exact ⟨q', List.mem_cons_of_mem _ h1, h2⟩
/-- from here on all is well -/
def StK (kd : Nat → Nat) (sh : Nat → Sh) (rt : Nat → Nat → Nat) (bd : Nat → Int → Int × Int) (Wp : Nat → Int → Bool) (Inv : Mem → Prop) (M0 : Mem) (Ev : Env9) (call : Call) (d : Nat) (ct : TrT Blk d) (F b : Nat) (Q : List AV → Mem → Prop) (P : Res → Prop) : Prop := ∀ f, F ≤ f → ∀ (L : List AV) (M : Mem), Q L M → GM kd sh rt bd Wp Inv M0 M → OKo (runF call d ct f b Ev 466 0 L [] M) P
noncomputable def xseg (kd : Nat → Nat) (sh : Nat → Sh) (rt : Nat → Nat → Nat) (bd : Nat → Int → Int × Int) (un : Nat → Bool) (Wp PR : Nat → Int → Bool) (MT : Nat → Option MDT) (CT : Nat → List Ctr) (D : Nat) (md : MDT) (sts : List (Nat × List SPt)) (posts : List Pst) (C b : Nat) (p : SPt) : Bool := match yspS p with
  | some σ => (match xsegT kd sh bd (xcode kd sh rt bd un Wp PR md.2.1) (xanL md.2.2) (stpL kd sh bd sts) (xM kd sh rt bd un Wp PR MT CT D) b σ with
    | some r => Bool.rec false (yallo posts r.2) (Nat.ble r.1 C)
    | none => false)
  | none => true
def MdC (md : MDT) (d : Nat) (ct : TrT Blk d) : Prop := ∀ b q, yat md.2.1 b = some q → tget d ct b = dnB 0 q
theorem xseg_ok (hu : ∀ κ v, un κ = true → bd κ v = bd κ 0) (hI : Hang kd PR Inv) {MT : Nat → Option MDT} {CT : Nat → List Ctr} {D : Nat} {call : Call} (hC : CS kd sh rt bd Wp Inv M0 Ev call (xM kd sh rt bd un Wp PR MT CT D)) {md : MDT} {d : Nat} {ct : TrT Blk d} (hmd : MdC md d ct) {sts : List (Nat × List SPt)} {posts : List Pst} {C F b : Nat} {p : SPt} {P : Res → Prop} (h : xseg kd sh rt bd un Wp PR MT CT D md sts posts C b p = true)
    (hst : ∀ q ∈ sts, ∀ p' ∈ q.2, StK kd sh rt bd Wp Inv M0 Ev call d ct F q.1 (SpOK kd p') P)
    (hP : ∀ r : Res, r.2.1 = Ev → r.2.2.2.2.2.2.1 = 466 → GM kd sh rt bd Wp Inv M0 r.2.2.2.2.2.1 → (∃ q ∈ posts, pOK kd q r) → P r) : StK kd sh rt bd Wp Inv M0 Ev call d ct (C + F) b (SpOK kd p) P := by
  intro f hf L M hQ hM
  obtain ⟨σ, G, e1, e2, e3⟩ := yspS_ok hQ
  unfold xseg at h
  rw [e1] at h
  cases hr : xsegT kd sh bd (xcode kd sh rt bd un Wp PR md.2.1) (xanL md.2.2) (stpL kd sh bd sts) (xM kd sh rt bd un Wp PR MT CT D) b σ with
  | none => simp only [hr] at h; cases h
  | some r =>
    simp only [hr] at h
    obtain ⟨k1, k2⟩ := band h
    have k1 := Nat.le_of_ble_eq_true k1
    have key := xsegT_ok (Zo := 0) (F := F) (P := P) hC (ct := ct) (fun b xl hx => by
      unfold xcode at hx
      cases hq : yat md.2.1 b with
      | none => rw [hq] at hx; cases hx
      | some q =>
        rw [hq] at hx
        cases hx
        rw [hmd b q hq]
        exact xiB_ok (Z := 0) hu hI (Nat.le_refl _) q) (stp := stpL kd sh bd sts) (fun b' k hk f' hf' σ' G' L' S' M' hk1 _ hS' hM' => by
      obtain ⟨q, m1, m2, m3⟩ := stpL_mem hk
      subst m3
      obtain ⟨s1, s2, p', s3, s4⟩ := yspA_ok hS' hM'.1 hk1
      rw [s1, s2, ← m2]
      exact hst q m1 p' s3 f' hf' L' M' s4 hM') hr (f := f) (by omega) (fun o hm G1 r1 q1 q2 q3 q4 q5 q6 q7 q8 => by
      obtain ⟨p1, p2, p3⟩ := yanyp_mem (yallo_mem k2 o hm)
      exact hP r1 q6 q7 q4 ⟨p1, p2, ypm_ok p3 q2 q3 q5 q8⟩) e2 hM
    rw [e3] at key
    exact key
theorem aOK_c2 {p : APt} {v : AV} (h : aOK kd p v) : isC2 v = Nat.beq p.1 3 := by
  obtain ⟨c, lo, hi⟩ := p
  match c, h with
  | 0, h => obtain ⟨x, e, _⟩ := h; subst e; rfl
  | 1, h => obtain ⟨e, _⟩ := h; rw [show v = vR lo.toNat from e]; rfl
  | 2, h => obtain ⟨k, e, _⟩ := h; subst e; rfl
  | 3, h => obtain ⟨x, e⟩ := h; subst e; rfl
  | c + 4, h => have e : v = vW lo.toNat := h; subst e; rfl
noncomputable def spF (l : List APt) : List (Option APt) := List.rec [] (fun p _ ih => Bool.rec (some p :: ih) (some p :: none :: ih) (Nat.beq p.1 3)) l
noncomputable def spR (n : Nat) : List (Option APt) := Nat.rec [] (fun _ ih => none :: ih) n
/-- the locals at a method's first block -/
noncomputable def spI (n : Nat) (l : List APt) : List (Option APt) := spF l ++ spR (n - ylen (spF l))
theorem lOK_app : ∀ {l m : List (Option APt)} {v w : List AV}, lOK kd l v → lOK kd m w → lOK kd (l ++ m) (v ++ w) := by
  intro l
  induction l with
  | nil => intro m v w h1 h2; cases v with | nil => exact h2 | cons _ _ => exact h1.elim
  | cons p l ih => intro m v w h1 h2; cases v with | nil => exact h1.elim | cons a v => exact ⟨h1.1, ih h1.2 h2⟩
theorem lOK_len : ∀ {l : List (Option APt)} {v : List AV}, lOK kd l v → l.length = v.length := by
  intro l
  induction l with
  | nil => intro v h; cases v with | nil => rfl | cons _ _ => exact h.elim
  | cons p l ih => intro v h; cases v with | nil => exact h.elim | cons a v => rw [List.length_cons, List.length_cons, ih h.2]
theorem spF_ok : ∀ {l : List APt} {vs : List AV}, asOK kd l vs → lOK kd (spF l) (flatL vs) := by
  intro l
  induction l with
  | nil => intro vs h; cases vs with | nil => trivial | cons _ _ => exact h.elim
  | cons p l ih =>
    intro vs h
    cases vs with
    | nil => exact h.elim
    | cons v vs =>
      show lOK kd (Bool.rec (some p :: spF l) (some p :: none :: spF l) (Nat.beq p.1 3)) (Bool.rec (v :: flatL vs) (v :: vW 3 :: flatL vs) (isC2 v))
      rw [aOK_c2 h.1]
      cases Nat.beq p.1 3 with
      | false => exact ⟨h.1, ih h.2⟩
      | true => exact ⟨h.1, rfl, ih h.2⟩
theorem spR_ok : ∀ n, lOK kd (spR n) (repA (vW 3) n) := by
  intro n
  induction n with
  | zero => trivial
  | succ n ih => exact ⟨rfl, ih⟩
theorem spI_ok {n : Nat} {l : List APt} {vs : List AV} (h : asOK kd l vs) : lOK kd (spI n l) (iniL n vs) := by
  have h1 := spF_ok h
  have e : ylen (spF l) = (flatL vs).length := by rw [ylen_eq, lOK_len h1]
  show lOK kd (spF l ++ spR (n - ylen (spF l))) (flatL vs ++ repA (vW 3) (n - (flatL vs).length))
  rw [e]
  exact lOK_app h1 (spR_ok _)
/-- what a contract says of an end, the memory before being M0 -/
def EnP (kd : Nat → Nat) (sh : Nat → Sh) (rt : Nat → Nat → Nat) (bd : Nat → Int → Int × Int) (Inv : Mem → Prop) (Ev : Env9) (ct : Ctr) (M0 : Mem) (r : Res) : Prop := r.2.1 = Ev ∧ r.2.2.2.2.2.2.1 = 466 ∧ TI kd sh rt bd r.2.2.2.2.2.1 ∧ Inv r.2.2.2.2.2.1 ∧ (∀ k : Nat, k < 466 → ∀ i : Nat, inW ct.2.2.2.1 (kd k) i = false → rdI r.2.2.2.2.2.1 k i = rdI M0 k i) ∧ ∃ p ∈ ct.2.2.2.2, pOK kd p r
theorem ctr_st {bo : Bo9} {R : Nat → Call} (hR : ∀ k y E n as M, R (k + 1) y E n as M = bo y (R k) E n as M) {y : Nat} {md : MDT} (hmd : MDOK bo y md) {ct : Ctr} {k : Nat} (hl : ylen (yflat (yargs ct.1 []).2) ≤ md.1)
    (H : ∀ (d : Nat) (c : TrT Blk d), MdC md d c → ∀ M0, Inv M0 → PrFa kd [] ct.2.1 M0 → StK kd sh rt bd (inW ct.2.2.2.1) Inv M0 Ev (R k) d c 1000000000000 0 (SpOK kd (spI md.1 ct.1, ct.2.1, ct.2.2.1)) (EnP kd sh rt bd Inv Ev ct M0)) : CtrOK kd sh rt bd Inv Ev (R (k + 1)) y ct := by
  intro vs M h1 h2 h3 hT hInv
  obtain ⟨d, c, e1, e2⟩ := hmd
  rw [hR, e2]
  have hE0 : yenv [] ([] : YE) := ⟨rfl, fun g e hg => by simp at hg⟩
  obtain ⟨G1, g1, g2, g3⟩ := yargs_ok hE0 h1
  have e : ylen (yflat (yargs ct.1 []).2) = (flatL vs).length := by rw [ylen_eq, svs_len (yflat_ok g3)]
  rw [← e, Nat.ble_eq_true_of_le hl]
  exact H d c e1 M hInv h2 1000000000000 (Nat.le_refl _) (iniL md.1 vs) M ⟨spI_ok h1, h2, h3⟩ ⟨hT, hInv, fun k' _ i' _ => rfl⟩
/-- a contract out of one piece -/
theorem ctr_seg (hu : ∀ κ v, un κ = true → bd κ v = bd κ 0) (hI : Hang kd PR Inv) {bo : Bo9} {R : Nat → Call} (hR : ∀ k y E n as M, R (k + 1) y E n as M = bo y (R k) E n as M) {y : Nat} {md : MDT} (hmd : MDOK bo y md) {ct : Ctr} {k : Nat} {MT : Nat → Option MDT} {CT : Nat → List Ctr} {D C : Nat} (hC : ∀ M0, CS kd sh rt bd (inW ct.2.2.2.1) Inv M0 Ev (R k) (xM kd sh rt bd un (inW ct.2.2.2.1) PR MT CT D)) (hl : ylen (yflat (yargs ct.1 []).2) ≤ md.1) (h : xseg kd sh rt bd un (inW ct.2.2.2.1) PR MT CT D md [] ct.2.2.2.2 C 0 (spI md.1 ct.1, ct.2.1, ct.2.2.1) = true) (hc : C ≤ 1000000000000) : CtrOK kd sh rt bd Inv Ev (R (k + 1)) y ct :=
  ctr_st hR hmd hl (fun d c hmC M0 _ _ f hf L M hQ hM => xseg_ok (C := C) (F := 0) hu hI (hC M0) hmC h (fun q q1 => by cases q1) (fun r r1 r2 r3 q => ⟨r1, r2, r3.1, r3.2.1, r3.2.2, q⟩) f (by omega) L M hQ hM)
end STA
