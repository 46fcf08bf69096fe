/-! from the midst of a block on, to ends and stations -/
section MID
variable {kd : Nat → Nat} {sh : Nat → Sh} {rt : Nat → Nat → Nat} {bd : Nat → Int → Int × Int} {un : Nat → Bool} {Wp PR : Nat → Int → Bool} {Inv : Mem → Prop} {M0 : Mem} {Ev : Env9}
noncomputable def xmid (kd : Nat → Nat) (sh : Nat → Sh) (rt : Nat → Nat → Nat) (bd : Nat → Int → Int × Int) (un : Nat → Bool) (Wp PR : Nat → Int → Bool) (MT : Nat → Option MDT) (CT : Nat → List Ctr) (D : Nat) (md : MDT) (sts : List (Nat × List SPt)) (posts : List Pst) (C : Nat) (q : DB) (p : SPt) : Bool := match yspS p with
  | some σ => (match ytim 1 (xB (xM kd sh rt bd un Wp PR MT CT D) (xrunT kd sh bd (xcode kd sh rt bd un Wp PR md.2.1) (xanL md.2.2) (stpL kd sh bd sts) (xM kd sh rt bd un Wp PR MT CT D) 400 []) (xiB kd sh rt bd un Wp PR q).2 (xiB kd sh rt bd un Wp PR q).1 σ) with
    | some r => Bool.rec false (yallo posts r.2) (Nat.ble r.1 C)
    | none => false)
  | none => true
/-- from here on all is well -/
def MiK (kd : Nat → Nat) (sh : Nat → Sh) (rt : Nat → Nat → Nat) (bd : Nat → Int → Int × Int) (Wp : Nat → Int → Bool) (Inv : Mem → Prop) (M0 : Mem) (Ev : Env9) (call : Call) (d : Nat) (ct : TrT Blk d) (F : Nat) (q : DB) (Q : List AV → Mem → Prop) (P : Res → Prop) : Prop := ∀ f, F ≤ f → ∀ (L : List AV) (M : Mem), Q L M → GM kd sh rt bd Wp Inv M0 M → OKo (runB call (runF call d ct f) (dtm 0 q.2) (dnL 0 q.1) Ev 466 0 L [] M) P
theorem xmid_ok (hu : ∀ κ v, un κ = true → bd κ v = bd κ 0) (hI : Hang kd PR Inv) {MT : Nat → Option MDT} {CT : Nat → List Ctr} {D : Nat} {call : Call} (hC : CS kd sh rt bd Wp Inv M0 Ev call (xM kd sh rt bd un Wp PR MT CT D)) {md : MDT} {d : Nat} {ct : TrT Blk d} (hmd : MdC md d ct) {sts : List (Nat × List SPt)} {posts : List Pst} {C F : Nat} {q : DB} {p : SPt} {P : Res → Prop} (h : xmid kd sh rt bd un Wp PR MT CT D md sts posts C q p = true)
    (hst : ∀ q ∈ sts, ∀ p' ∈ q.2, StK kd sh rt bd Wp Inv M0 Ev call d ct F q.1 (SpOK kd p') P)
    (hP : ∀ r : Res, r.2.1 = Ev → r.2.2.2.2.2.2.1 = 466 → GM kd sh rt bd Wp Inv M0 r.2.2.2.2.2.1 → (∃ q ∈ posts, pOK kd q r) → P r) : MiK kd sh rt bd Wp Inv M0 Ev call d ct (C + F) q (SpOK kd p) P := by
  intro f hf L M hQ hM
  obtain ⟨σ, G, e1, e2, e3⟩ := yspS_ok hQ
  unfold xmid at h
  rw [e1] at h
  cases hr : ytim 1 (xB (xM kd sh rt bd un Wp PR MT CT D) (xrunT kd sh bd (xcode kd sh rt bd un Wp PR md.2.1) (xanL md.2.2) (stpL kd sh bd sts) (xM kd sh rt bd un Wp PR MT CT D) 400 []) (xiB kd sh rt bd un Wp PR q).2 (xiB kd sh rt bd un Wp PR q).1 σ) with
  | none => simp only [hr] at h; cases h
  | some r =>
    simp only [hr] at h
    obtain ⟨k1, k2⟩ := band h
    have k1 := Nat.le_of_ble_eq_true k1
    obtain ⟨x, x1, x2, x3⟩ := ytim_some hr
    have x2 : r.1 = 1 * (x.1 + 1) := x2
    obtain ⟨t1, t2⟩ := xiB_ok (kd := kd) (sh := sh) (rt := rt) (bd := bd) (Wp := Wp) (PR := PR) (M0 := M0) (Ev := Ev) (Zo := 0) (Z := 0) hu hI (Nat.le_refl _) q
    have hk := xB_ok (Zo := 0) hC (c := x.1) (P := P) (B := G) (j := runF call d ct f) (xj := xrunT kd sh bd (xcode kd sh rt bd un Wp PR md.2.1) (xanL md.2.2) (stpL kd sh bd sts) (xM kd sh rt bd un Wp PR MT CT D) 400 []) (fun b' => xrunT_ok (Zo := 0) (F := F) hC (fun b xl hx => by
      unfold xcode at hx
      cases hq : yat md.2.1 b with
      | none => rw [hq] at hx; cases hx
      | some q9 =>
        rw [hq] at hx
        cases hx
        rw [hmd b q9 hq]
        exact xiB_ok (Z := 0) hu hI (Nat.le_refl _) q9) (stp := stpL kd sh bd sts) (fun b' k hk f' hf' σ' G' L' S' M' hk1 _ hS' hM' => by
      obtain ⟨q9, m1, m2, m3⟩ := stpL_mem hk
      subst m3
      obtain ⟨s1, s2, p', s3, s4⟩ := yspA_ok hS' hM'.1 hk1
      rw [s1, s2, ← m2]
      exact hst q9 m1 p' s3 f' hf' L' M' s4 hM') 400 [] b' f x.1 G (List.prefix_refl _) (by omega) (fun rc hm => by cases hm)) t1 t2
    have key := ks_use hk (σ := σ) x1 (Nat.le_refl _) (fun o hm G1 r1 q1 q2 q3 q4 q5 q6 q7 q8 => by
      obtain ⟨p1, p2, p3⟩ := yanyp_mem (yallo_mem k2 o (by rw [x3]; exact hm))
      exact hP r1 q6 q7 q4 ⟨p1, p2, ypm_ok p3 q2 q3 q5 q8⟩) (List.prefix_refl _) e2 hM
    rw [e3] at key
    exact key
end MID
