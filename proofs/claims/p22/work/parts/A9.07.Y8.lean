/-! from the midst of a block on, to ends and stations -/
section MID
variable {kd : Nat → Nat} {sh : Nat → Sh} {rt : Nat → Nat → Nat} {bd : Nat → Int → Int × Int} {un : Nat → Bool} {Wp PR : Nat → Int → Bool} {Inv : Mem → Prop} {M0 : Mem} {Ev : Env9}
noncomputable def xmid (kd : Nat → Nat) (sh : Nat → Sh) (rt : Nat → Nat → Nat) (bd : Nat → Int → Int × Int) (un : Nat → Bool) (Wp PR : Nat → Int → Bool) (MT : Nat → Option MDT) (CT : Nat → List Ctr) (D : Nat) (md : MDT) (sts : List (Nat × List SPt)) (posts : List Pst) (C : Nat) (q : DB) (p : SPt) : Bool := match yspS p with
  | some σ => (match ytim 1 (xB (xM kd sh rt bd un Wp PR MT CT D) (xrunT kd sh bd (xcode kd sh rt bd un Wp PR md.2.1) (xanL md.2.2) (stpL kd sh bd sts) (xM kd sh rt bd un Wp PR MT CT D) 400 []) (xiB kd sh rt bd un Wp PR q).2 (xiB kd sh rt bd un Wp PR q).1 σ) with
    | some r => Bool.rec false (yallo posts r.2) (Nat.ble r.1 C)
    | none => false)
  | none => true
/-- from here on all is well -/
def MiK (kd : Nat → Nat) (sh : Nat → Sh) (rt : Nat → Nat → Nat) (bd : Nat → Int → Int × Int) (Wp : Nat → Int → Bool) (Inv : Mem → Prop) (M0 : Mem) (Ev : Env9) (call : Call) (d : Nat) (ct : TrT Blk d) (F : Nat) (q : DB) (Q : List AV → Mem → Prop) (P : Res → Prop) : Prop := ∀ f, F ≤ f → ∀ (L : List AV) (M : Mem), Q L M → GM kd sh rt bd Wp Inv M0 M → OKo (runB call (runF call d ct f) (dtm 0 q.2) (dnL 0 q.1) Ev 466 0 L [] M) P
theorem xmid_ok (hu : ∀ κ v, un κ = true → bd κ v = bd κ 0) (hI : Hang kd PR Inv) {MT : Nat → Option MDT} {CT : Nat → List Ctr} {D : Nat} {call : Call} (hC : CS kd sh rt bd Wp Inv M0 Ev call (xM kd sh rt bd un Wp PR MT CT D)) {md : MDT} {d : Nat} {ct : TrT Blk d} (hmd : MdC md d ct) {sts : List (Nat × List SPt)} {posts : List Pst} {C F : Nat} {q : DB} {p : SPt} {P : Res → Prop} (h : xmid kd sh rt bd un Wp PR MT CT D md sts posts C q p = true)
    (hst : ∀ q ∈ sts, ∀ p' ∈ q.2, StK kd sh rt bd Wp Inv M0 Ev call d ct F q.1 (SpOK kd p') P)
    (hP : ∀ r : Res, r.2.1 = Ev → r.2.2.2.2.2.2.1 = 466 → GM kd sh rt bd Wp Inv M0 r.2.2.2.2.2.1 → (∃ q ∈ posts, pOK kd q r) → P r) : MiK kd sh rt bd Wp Inv M0 Ev call d ct (C + F) q (SpOK kd p) P := by
  intro f hf L M hQ hM
  obtain ⟨σ, G, e1, e2, e3⟩ := yspS_ok hQ
  unfold xmid at h
  rw [e1] at h
  cases hr : ytim 1 (xB (xM kd sh rt bd un Wp PR MT CT D) (xrunT kd sh bd (xcode kd sh rt bd un Wp PR md.2.1) (xanL md.2.2) (stpL kd sh bd sts) (xM kd sh rt bd un Wp PR MT CT D) 400 []) (xiB kd sh rt bd un Wp PR q).2 (xiB kd sh rt bd un Wp PR q).1 σ) with
  | none => simp only [hr] at h; cases h
  | some r =>
    simp only [hr] at h
    obtain ⟨k1, k2⟩ := band h
    have k1 := Nat.le_of_ble_eq_true k1
    obtain ⟨x, x1, x2, x3⟩ := ytim_some hr
    have x2 : r.1 = 1 * (x.1 + 1) := x2
    obtain ⟨t1, t2⟩ := xiB_ok (kd := kd) (sh := sh) (rt := rt) (bd := bd) (Wp := Wp) (PR := PR) (M0 := M0) (Ev := Ev) (Zo := 0) (Z := 0) hu hI (Nat.le_refl _) q
    have hk := xB_ok (Zo := 0) hC (c := x.1) (P := P) (B := G) (j := runF call d ct f) (xj := xrunT kd sh bd (xcode kd sh rt bd un Wp PR md.2.1) (xanL md.2.2) (stpL kd sh bd sts) (xM kd sh rt bd un Wp PR MT CT D) 400 []) (fun b' => xrunT_ok (Zo := 0) (F := F) hC (fun b xl hx => by
      unfold xcode at hx
      cases hq : yat md.2.1 b with
      | none => rw [hq] at hx; cases hx
      | some q9 =>
        rw [hq] at hx
        cases hx
        rw [hmd b q9 hq]
        exact xiB_ok (Z := 0) hu hI (Nat.le_refl _) q9) (stp := stpL kd sh bd sts) (fun b' k hk f' hf' σ' G' L' S' M' hk1 _ hS' hM' => by
      obtain ⟨q9, m1, m2, m3⟩ := stpL_mem hk
      subst m3
      obtain ⟨s1, s2, p', s3, s4⟩ := yspA_ok hS' hM'.1 hk1
      rw [s1, s2, ← m2]
      exact hst q9 m1 p' s3 f' hf' L' M' s4 hM') 400 [] b' f x.1 G (List.prefix_refl _) (by omega) (fun rc hm => by cases hm)) t1 t2
    have key := ks_use hk (σ := σ) x1 (Nat.le_refl _) (fun o hm G1 r1 q1 q2 q3 q4 q5 q6 q7 q8 => by
      obtain ⟨p1, p2, p3⟩ := yanyp_mem (yallo_mem k2 o (by rw [x3]; exact hm))
      exact hP r1 q6 q7 q4 ⟨p1, p2, ypm_ok p3 q2 q3 q5 q8⟩) (List.prefix_refl _) e2 hM
    rw [e3] at key
    exact key
end MID
/-! the program's executeCommands of a text without an error -/
section BYH2
variable {call : Call} {j : Jmp} {t : Trm} {l : List Op1} {E : Env9} {n z : Nat} {L S : List AV} {M : Mem}
theorem rb_callB {g : List AV → Mem → Bool} {y na bud B : Nat} {as rest S' L' : List AV} {v : AV} {M' : Mem} {z' : Nat} (hS : spl na [] S = (as, rest)) (hl : Nat.ble na S.length = true) (hc : Nat.ble (catS rest) 8 = true) (hz : z + bud ≤ B) (hg : g as M = true) (hr : call y E n as M = some [((0, 0), E, v, S', L', M', 466, z')]) : runB call j t (op_call g y na bud B :: l) E n z L S M = runB call j t l E 466 (z + bud) L (v :: rest) M' := by
  show op_call g y na bud B call (runB call j t l) E n z L S M = _
  unfold op_call
  rw [hS, hl, Nat.ble_eq_true_of_le hz]
  show gd true (gd (Nat.ble (catS rest) 8) (gd true (gd (g as M) (match call y E n as M with
    | some rs => joinR (fun r => match r with
      | ((0, _), E', v, _, _, M', n', _) => fN n' fun n' => runB call j t l E' n' (z + bud) L (v :: rest) M'
      | ((1, _), E', _, _, _, M', n', _) => fN n' fun n' => runB call j t l E' n' (z + bud) L rest M'
      | _ => none) rs
    | none => none)))) = _
  rw [hc, hg, hr]
  refine gd4 ?_
  rw [joinR_1]
  show fN 466 (fun n' => runB call j t l E n' (z + bud) L (v :: rest) M') = _
  rw [fN_eq]
theorem rb_getfB {ci i a : Nat} {fs : List AV} (h : tget 9 M a = cO ci fs) (hi : i < fs.length) : runB call j t (op_getf ci i :: l) E n z L (vR a :: S) M = runB call j t l E n z L (nth fs i :: S) M := op_getf_n (call := call) (K := runB call j t l) h hi
theorem rb_stB {f : AV → Bool} {i : Nat} {v : AV} (h1 : f v = true) (h2 : lk2 L i = true) : runB call j t (op_st f i :: l) E n z L (v :: S) M = runB call j t l E n z (nst L i v) S M := by
  show op_st f i call (runB call j t l) E n z L (v :: S) M = _
  rw [stn, h1, h2]
  rfl
end BYH2
theorem so0X : ∃ q, sh0 (kd0 0) = .inl q ∧ q.1 = 10 ∧ q.2.length = 15 ∧ (∃ f, q.2[12]? = some (f + 2)) ∧ ∃ f, q.2[3]? = some (f + 2) := ⟨_, rfl, rfl, rfl, ⟨_, rfl⟩, ⟨_, rfl⟩⟩
theorem sh448X : ∃ q, sh0 (kd0 448) = .inl q ∧ q.1 = 1 := ⟨_, rfl, rfl⟩
theorem rt12X : rt0 0 12 = 448 ∧ rt0 0 3 = 7 := by decide +kernel
/-! commands: the valleys that get money, the echoes that are taught, are there -/
noncomputable def su7 (k i j : Nat) (n : Int) : Sct := ((.inl k, (0, 0, (i : Int))), (.inl 7, (0, 0, (j : Int))), -1, n, -1)
noncomputable def nmK (j κ : Nat) : Ctr := ([(1, 7, 0), (3, 0, 0)], [f8 7 j κ κ], [], [], [((0, 0), (0, (-1), (-1)), [], []), ((0, 0), (0, 0, (κ : Int) - 1), [], [])])
theorem x_vn : allN 9 (fun κ => xctr kd0 sh0 rt0 bd0 un0 PR0 MT0 CT9 8 md_30 (nmK 3 κ)) = true := by decide +kernel
theorem x_en : allN 13 (fun κ => xctr kd0 sh0 rt0 bd0 un0 PR0 MT0 CT9 8 md_32 (nmK 2 κ)) = true := by decide +kernel
noncomputable def tkE0 : Pst := ((0, 0), (0, 0, 0), [f8 446 2 0 5, f8 446 4 (-900) 900, f8 446 6 1 3, f8 446 7 0 900], [])
noncomputable def tkK (j κ : Nat) : Ctr := ([(1, 446, 0), (1, 7, 0)], [f8 446 1 0 900, f8 7 j κ κ], [], [(10, 1, 7)], [tkE0, ((0, 0), (0, 1, 1), [f8 446 2 1 1, f8 446 4 (-900) 6, f8 446 5 0 ((κ : Int) - 1)], [])])
theorem x_tv : allN 9 (fun κ => xctr kd0 sh0 rt0 bd0 un0 PR0 MT0 (ctL [(48, ct_2), (5, ct_29), (72, nmK 3 κ)]) 8 md_31 (tkK 3 κ)) = true := by decide +kernel
theorem x_te : allN 13 (fun κ => xctr kd0 sh0 rt0 bd0 un0 PR0 MT0 (ctL [(48, ct_2), (5, ct_29), (71, nmK 2 κ)]) 8 md_33 (tkK 2 κ)) = true := by decide +kernel
/-- a name taken: its number is below the count -/
noncomputable def tkS (j : Nat) (hi n : Int) : Ctr := ([(1, 446, 0), (1, 7, 0)], [f8 446 1 0 900], [], [(10, 1, 7)], [tkE0, ((0, 0), (0, 1, 1), [f8 446 2 1 1, f8 446 4 (-900) 6, f8 446 5 0 hi], [su7 446 5 j n])])
theorem tk7 : bdAt 7 3 0 8 = true ∧ bdAt 7 2 0 12 = true := by decide +kernel
theorem wt7 : inW [(10, 1, 7)] (kd0 7) ((3 : Nat) : Int) = false ∧ inW [(10, 1, 7)] (kd0 7) ((2 : Nat) : Int) = false := by decide +kernel
theorem tkS_of {Ev : Env9} {y j κ : Nat} {hi n : Int} {k : Nat} {vs : List AV} {M : Mem} (h : CtrOK kd0 sh0 rt0 bd0 Inv0 Ev (runM k) y (tkK j κ)) (hj : j = 2 ∨ j = 3) (hκ : rdI M 7 j = (κ : Int)) (hh : (κ : Int) - 1 ≤ hi) (hn : n ≤ 0 - (κ : Int)) (h1 : asOK kd0 (tkS j hi n).1 vs) (h2 : PrFa kd0 [] (tkS j hi n).2.1 M) (hT : TI kd0 sh0 rt0 bd0 M) (hI : Inv0 M) : OKo (runM k y Ev 466 vs M) (fun r => r.2.1 = Ev ∧ r.2.2.2.2.2.2.1 = 466 ∧ TI kd0 sh0 rt0 bd0 r.2.2.2.2.2.1 ∧ Inv0 r.2.2.2.2.2.1 ∧ (∀ k : Nat, k < 466 → ∀ i : Nat, inW (tkS j hi n).2.2.2.1 (kd0 k) i = false → rdI r.2.2.2.2.2.1 k i = rdI M k i) ∧ ∃ p ∈ (tkS j hi n).2.2.2.2, pOK kd0 p r) := by
  obtain ⟨r, e, r1, r2, r3, r4, r5, p, p1, p2⟩ := h vs M h1 (prFa_app (l := [f8 446 1 0 900]) h2 (prFa_1 (c := 7) (i := j) (by decide) (by rw [hκ]; exact Int.le_refl _) (by rw [hκ]; exact Int.le_refl _))) (fun q hq => by cases hq) hT hI
  refine ⟨r, e, r1, r2, r3, r4, r5, ?_⟩
  rcases List.mem_cons.mp p1 with q | q
  · subst q
    exact ⟨tkE0, List.mem_cons_self, p2⟩
  · obtain rfl := List.mem_singleton.mp q
    refine ⟨_, List.mem_cons_of_mem _ List.mem_cons_self, p2.1, p2.2.1, ?_, ?_⟩
    · have a5 := fact_at p2.2.2.1 (c := 446) (i := 5) (lo := 0) (hi := (κ : Int) - 1) (List.mem_cons_of_mem _ (List.mem_cons_of_mem _ List.mem_cons_self))
      have a2 := fact_at p2.2.2.1 (c := 446) (i := 2) (lo := 1) (hi := 1) List.mem_cons_self
      have a4 := fact_at p2.2.2.1 (c := 446) (i := 4) (lo := -900) (hi := 6) (List.mem_cons_of_mem _ List.mem_cons_self)
      exact prFa_app (l := [f8 446 2 1 1]) (prFa_1 (c := 446) (i := 2) (by decide) a2.1 a2.2) (prFa_app (l := [f8 446 4 (-900) 6]) (prFa_1 (c := 446) (i := 4) (by decide) a4.1 a4.2) (prFa_1 (c := 446) (i := 5) (by decide) a5.1 (by omega)))
    · have a5 := fact_at p2.2.2.1 (c := 446) (i := 5) (lo := 0) (hi := (κ : Int) - 1) (List.mem_cons_of_mem _ (List.mem_cons_of_mem _ List.mem_cons_self))
      have e7 : rdI r.2.2.2.2.2.1 7 j = rdI M 7 j := r5 7 (by decide) j (by rcases hj with rfl | rfl; exact wt7.2; exact wt7.1)
      rw [hκ] at e7
      intro q hq
      obtain rfl := List.mem_singleton.mp hq
      refine ⟨446, 5, 7, j, ⟨⟨by decide, rfl⟩, yev_c⟩, ⟨⟨by decide, rfl⟩, yev_c⟩, ?_, ?_⟩
      · show n ≤ rdI r.2.2.2.2.2.1 446 5 + -1 * rdI r.2.2.2.2.2.1 7 j
        rw [e7]
        omega
      · show rdI r.2.2.2.2.2.1 446 5 + -1 * rdI r.2.2.2.2.2.1 7 j ≤ -1
        rw [e7]
        omega
theorem tvS_ok {Ev : Env9} : CK Ev 18 (58, tkS 3 7 (-8)) := by
  intro k hk vs M h1 h2 h3 hT hI
  have hb := bdAt_ok tk7.1 hT
  obtain ⟨κ, hκ, he⟩ : ∃ κ : Nat, κ < 9 ∧ rdI M 7 3 = (κ : Int) := ⟨(rdI M 7 3).toNat, by omega, by omega⟩
  exact tkS_of (κ := κ) (xctr_ok hu0 hang_0 hR9 hMT9 (b := 9) (ctL_ok (l := [(48, ct_2), (5, ct_29), (72, nmK 3 κ)]) (And.intro (CK_up cc_2 (by decide)) (And.intro (CK_up cc_29 (by decide)) (And.intro (show CK Ev 9 (72, nmK 3 κ) from fun k hk => xctr_ok hu0 hang_0 hR9 hMT9 (b := 0) (ctL_ok (l := []) trivial) (mo_X9_valleyNamed rfl _) (allN_ok x_vn κ hκ) k hk) trivial)))) (mo_X7_takeValley rfl _) (allN_ok x_tv κ hκ) k hk) (Or.inr rfl) he (by omega) (by omega) h1 h2 hT hI
theorem teS_ok {Ev : Env9} : CK Ev 18 (57, tkS 2 11 (-12)) := by
  intro k hk vs M h1 h2 h3 hT hI
  have hb := bdAt_ok tk7.2 hT
  obtain ⟨κ, hκ, he⟩ : ∃ κ : Nat, κ < 13 ∧ rdI M 7 2 = (κ : Int) := ⟨(rdI M 7 2).toNat, by omega, by omega⟩
  exact tkS_of (κ := κ) (xctr_ok hu0 hang_0 hR9 hMT9 (b := 9) (ctL_ok (l := [(48, ct_2), (5, ct_29), (71, nmK 2 κ)]) (And.intro (CK_up cc_2 (by decide)) (And.intro (CK_up cc_29 (by decide)) (And.intro (show CK Ev 9 (71, nmK 2 κ) from fun k hk => xctr_ok hu0 hang_0 hR9 hMT9 (b := 0) (ctL_ok (l := []) trivial) (mo_X9_echoNamed rfl _) (allN_ok x_en κ hκ) k hk) trivial)))) (mo_X7_takeEcho rfl _) (allN_ok x_te κ hκ) k hk) (Or.inl rfl) he (by omega) (by omega) h1 h2 hT hI
/-! the parser of commands again -/
def CmdT (c : Nat) (M : Mem) : Prop := ∀ i : Nat, i < c → i < 30 → (rdI M 449 i = 5 → rdI M 450 i < rdI M 7 3) ∧ (rdI M 449 i = 6 → rdI M 450 i < rdI M 7 2)
def CmdC (M : Mem) : Prop := ∀ i : Nat, i < 30 → (i : Int) < rdI M 448 4 → (rdI M 449 i = 5 → rdI M 450 i < rdI M 7 3) ∧ (rdI M 449 i = 6 → rdI M 450 i < rdI M 7 2)
theorem CmdT_eq {c : Nat} {M M' : Mem} (h : ∀ i, i < c → i < 30 → rdI M' 449 i = rdI M 449 i ∧ rdI M' 450 i = rdI M 450 i) (h2 : rdI M' 7 2 = rdI M 7 2) (h3 : rdI M' 7 3 = rdI M 7 3) (hc : CmdT c M) : CmdT c M' := fun i h1 hi => by
  rw [(h i h1 hi).1, (h i h1 hi).2, h2, h3]
  exact hc i h1 hi
theorem CmdC_eq {M M' : Mem} (h4 : rdI M' 448 4 = rdI M 448 4) (h : ∀ i, i < 30 → rdI M' 449 i = rdI M 449 i ∧ rdI M' 450 i = rdI M 450 i) (h2 : rdI M' 7 2 = rdI M 7 2) (h3 : rdI M' 7 3 = rdI M 7 3) (hc : CmdC M) : CmdC M' := fun i hi h9 => by
  rw [h4] at h9
  rw [(h i hi).1, (h i hi).2, h2, h3]
  exact hc i hi h9
theorem CmdT_of {c : Nat} {M : Mem} (hc : rdI M 448 4 = (c : Int)) (h : CmdC M) : CmdT c M := fun i h1 hi => h i hi (by omega)
theorem CmdT_to {c : Nat} {M : Mem} (hc : rdI M 448 4 ≤ (c : Int)) (h : CmdT c M) : CmdC M := fun i hi h9 => h i (by omega) hi
def InvD (c : Nat) (M : Mem) : Prop := InvC c M ∧ CmdT c M
def InvR (c : Nat) (M : Mem) : Prop := InvQ c M ∧ CmdT c M
noncomputable def PRD (c : Nat) (κ : Nat) (v : Int) : Bool := Bool.rec (inW [(4, 2, 3)] κ v) true (PRC c κ v)
noncomputable def PRSw (c : Nat) (κ : Nat) (v : Int) : Bool := Bool.rec (inW [(4, 2, 3)] κ v) true (PRQ c κ v)
theorem prd_0 {c κ : Nat} {v : Int} (h : PRC c κ v = true) : PRD c κ v = true := by
  show (Bool.rec (inW [(4, 2, 3)] κ v) true (PRC c κ v) : Bool) = true
  rw [h]
theorem prs_0 {c κ : Nat} {v : Int} (h : PRQ c κ v = true) : PRSw c κ v = true := by
  show (Bool.rec (inW [(4, 2, 3)] κ v) true (PRQ c κ v) : Bool) = true
  rw [h]
noncomputable def pr7b (c : Nat) : Bool := Bool.rec false (Bool.rec false (Bool.rec false (PRSw c (kd0 7) ((3 : Nat) : Int)) (PRSw c (kd0 7) ((2 : Nat) : Int))) (PRD c (kd0 7) ((3 : Nat) : Int))) (PRD c (kd0 7) ((2 : Nat) : Int))
theorem pr7 : allN 31 pr7b = true := by decide +kernel
theorem pr7_ok {c : Nat} (hc : c < 31) : PRD c (kd0 7) ((2 : Nat) : Int) = true ∧ PRD c (kd0 7) ((3 : Nat) : Int) = true ∧ PRSw c (kd0 7) ((2 : Nat) : Int) = true ∧ PRSw c (kd0 7) ((3 : Nat) : Int) = true := by
  obtain ⟨a, b⟩ := band (show (Bool.rec false (Bool.rec false (Bool.rec false (PRSw c (kd0 7) ((3 : Nat) : Int)) (PRSw c (kd0 7) ((2 : Nat) : Int))) (PRD c (kd0 7) ((3 : Nat) : Int))) (PRD c (kd0 7) ((2 : Nat) : Int)) : Bool) = true from allN_ok pr7 c hc)
  obtain ⟨b, d⟩ := band b
  obtain ⟨d, e⟩ := band d
  exact ⟨a, b, d, e⟩
theorem prc_r {c : Nat} (hc : c < 31) {i : Nat} (hi : i < c) : PRC c (kd0 449) (i : Int) = true ∧ PRC c (kd0 450) (i : Int) = true := by
  have g := allN_ok hgC_all c hc
  obtain ⟨-, g⟩ := band (a := hgE (PRC c)) (b := hgC1 c) g
  obtain ⟨-, g⟩ := band (a := hgG (PRC c)) (b := hgC2 c) g
  obtain ⟨-, g⟩ := band (a := PRC c (kd0 452) ((7 : Nat) : Int)) (b := hgC3 c) g
  obtain ⟨-, g⟩ := band (a := PRC c (kd0 452) ((25 : Nat) : Int)) (b := hgC4 c) g
  obtain ⟨-, g⟩ := band (a := allN 90 (fun i => PRC c (kd0 463) (i : Int))) (b := hgC5 c) g
  obtain ⟨-, g⟩ := band (a := PRC c (kd0 452) ((5 : Nat) : Int)) (b := hgC6 c) g
  have y := allN_ok g i hi
  exact ⟨allL_ok y 449 (by decide), allL_ok y 450 (by decide)⟩
theorem hang_D {c : Nat} (hc : c < 31) : Hang kd0 (PRD c) (InvD c) := fun M M' h hf => ⟨hang_C hc M M' h.1 (fun k hk i hi => hf k hk i (prd_0 hi)), CmdT_eq (fun i h1 _ => ⟨hf 449 (by decide) i (prd_0 (prc_r hc h1).1), hf 450 (by decide) i (prd_0 (prc_r hc h1).2)⟩) (hf 7 (by decide) 2 (pr7_ok hc).1) (hf 7 (by decide) 3 (pr7_ok hc).2.1) h.2⟩
theorem hang_R {c : Nat} (hc : c < 31) : Hang kd0 (PRSw c) (InvR c) := fun M M' h hf => ⟨hang_Q hc M M' h.1 (fun k hk i hi => hf k hk i (prs_0 hi)), CmdT_eq (fun i h1 _ => ⟨hf 449 (by decide) i (prs_0 (prQ (prc_r hc h1).1)), hf 450 (by decide) i (prs_0 (prQ (prc_r hc h1).2))⟩) (hf 7 (by decide) 2 (pr7_ok hc).2.2.1) (hf 7 (by decide) 3 (pr7_ok hc).2.2.2) h.2⟩
noncomputable def nCm (ct : Ctr) : Bool := allL ct.2.2.2.1 (fun a => snot (memN a.1 [4, 12, 28, 29, 30]))
theorem kCm : allL [7, 448, 449, 450, 451] (fun k => memN (kd0 k) [4, 12, 28, 29, 30]) = true := by decide +kernel
theorem nCm_ok {ct : Ctr} (h : nCm ct = true) {k : Nat} (hk : memN (kd0 k) [4, 12, 28, 29, 30] = true) (i : Nat) : inW ct.2.2.2.1 (kd0 k) (i : Int) = false := by
  cases hb : inW ct.2.2.2.1 (kd0 k) (i : Int) with
  | false => rfl
  | true =>
    exfalso
    obtain ⟨a, m1, m2, m3, m4⟩ := inW_mem hb
    have h1 := snot_t (allL_ok h a m1)
    rw [m2, hk] at h1
    cases h1
theorem lift_R {Ev : Env9} {call : Call} {y c : Nat} {ct : Ctr} (h : CtrOK kd0 sh0 rt0 bd0 Inv0 Ev call y ct) (hw : nCm ct = true) : CtrOK kd0 sh0 rt0 bd0 (InvR c) Ev call y ct :=
  ctr_lift h (fun M g => InvC_to (Int.le_of_eq g.1.2) g.1.1) (fun M M' _ g g2 _ g4 _ => by
    have fr : ∀ k, k ∈ [7, 448, 449, 450, 451] → ∀ i, rdI M' k i = rdI M k i := fun k hk i => g4 k (by revert hk; exact (by decide : ∀ k ∈ [7, 448, 449, 450, 451], k < 466) k) i (nCm_ok hw (allL_ok kCm k hk) i)
    have e : rdI M' 448 4 = (c : Int) := by rw [fr 448 (by decide) 4]; exact g.1.2
    exact ⟨⟨InvC_of e g2, e⟩, CmdT_eq (fun i _ _ => ⟨fr 449 (by decide) i, fr 450 (by decide) i⟩) (fr 7 (by decide) 2) (fr 7 (by decide) 3) g.2⟩)
theorem lift_RL {Ev : Env9} {b c : Nat} : ∀ {l : List (Nat × Ctr)}, allC (CK Ev b) l → allL l (fun p => nCm p.2) = true → allC (CKI (InvR c) Ev b) l := by
  intro l
  induction l with
  | nil => intro _ _; trivial
  | cons a l ih =>
    intro h hw
    obtain ⟨w1, w2⟩ := band (a := nCm a.2) (b := allL l (fun p => nCm p.2)) hw
    exact ⟨fun k hk => lift_R (h.1 k hk) w1, ih h.2 w2⟩
noncomputable def tlS : List (Nat × Ctr) := [(48, ct_2), (49, ct_6), (52, ct_9), (58, tkS 3 7 (-8)), (57, tkS 2 11 (-12)), (55, ct_39), (49, ct_280), (49, ct_284), (49, ct_288), (49, ct_292), (49, ct_296), (49, ct_300), (55, ct_301), (55, ct_302)]
theorem wl_S : allL tlS (fun p => nCm p.2) = true := by decide +kernel
theorem run_st {Ev : Env9} {bo : Bo9} {R : Nat → Call} (hR : ∀ k y E n as M, R (k + 1) y E n as M = bo y (R k) E n as M) {y : Nat} {md : MDT} (hmd : MDOK bo y md) {args : List APt} {k : Nat} (hl : ylen (yflat (yargs args []).2) ≤ md.1) {vs : List AV} {M : Mem} {P : Res → Prop} (h1 : asOK kd0 args vs)
    (H : ∀ (d : Nat) (c : TrT Blk d), MdC md d c → ∀ L, SpOK kd0 (spI md.1 args, [], []) L M → OKo (runF (R k) d c 1000000000000 0 Ev 466 0 L [] M) P) : OKo (R (k + 1) y Ev 466 vs M) P := by
  obtain ⟨d, c, e1, e2⟩ := hmd
  rw [hR, e2]
  have hE0 : yenv [] ([] : YE) := ⟨rfl, fun g e hg => by simp at hg⟩
  obtain ⟨G1, g1, g2, g3⟩ := yargs_ok hE0 h1
  have e : ylen (yflat (yargs args []).2) = (flatL vs).length := by rw [ylen_eq, svs_len (yflat_ok g3)]
  rw [← e, Nat.ble_eq_true_of_le hl]
  exact H d c e1 (iniL md.1 vs) ⟨spI_ok h1, fun q hq => by cases hq, fun q hq => by cases hq⟩
noncomputable def suF (c : Nat) (q : Int × (Int × Int) × (Int × Int)) : List Sct := Bool.rec (Bool.rec [] [su7 450 c 2 (-12)] (ieq q.1 6)) [su7 450 c 3 (-8)] (ieq q.1 5)
noncomputable def st11S (c : Nat) (q : Int × (Int × Int) × (Int × Int)) : SPt := ([some (1, 448, 0), some (1, 7, 0), some (0, (c : Int), (c : Int)), none], f8 448 4 c c :: relF c q, suF c q)
noncomputable def chSx1 (c : Nat) : Bool := xseg kd0 sh0 rt0 bd0 un0 (inW wP) (PRSw c) MT0 (ctL tlS) 8 mdP (yif (Nat.blt c 30) [(11, relL.map (st11S c))]) (pP c) 1000000 1 (stP c [])
noncomputable def chSx11 (c : Nat) : Bool := allL relL (fun q => xseg kd0 sh0 rt0 bd0 un0 (inW wP) (PRD (c + 1)) MT0 CT9 0 mdP [(1, [stP (c + 1) []])] [] 1000000 11 (st11S c q))
theorem chSx : allN 31 chSx1 = true := by decide +kernel
theorem chSxb : allN 30 chSx11 = true := by decide +kernel
theorem chSx0 : xseg kd0 sh0 rt0 bd0 un0 (inW wP) (PRD 0) MT0 CT9 4 mdP [(1, [stP 0 []])] [] 1000000 0 (spI 4 ctP.1, [], []) = true := by decide +kernel
theorem suF_ok {c : Nat} {q : Int × (Int × Int) × (Int × Int)} {M : Mem} (h : PrSu kd0 [] (suF c q) M) (hq : rdI M 449 c = q.1) : (rdI M 449 c = 5 → rdI M 450 c < rdI M 7 3) ∧ (rdI M 449 c = 6 → rdI M 450 c < rdI M 7 2) := by
  constructor
  · intro h5
    have e : ieq q.1 5 = true := ieq_iff.mpr (by rw [← hq]; exact h5)
    unfold suF at h
    rw [e] at h
    have h : PrSu kd0 [] [su7 450 c 3 (-8)] M := h
    have := (sum_at h (c := 450) (i := c) (c' := 7) (i' := 3) (s := -1) (lo := -8) (hi := -1) List.mem_cons_self).2
    omega
  · intro h6
    have e : ieq q.1 5 = false := by
      cases hb : ieq q.1 5 with
      | false => rfl
      | true =>
        have := ieq_iff.mp hb
        omega
    have e6 : ieq q.1 6 = true := ieq_iff.mpr (by rw [← hq]; exact h6)
    unfold suF at h
    rw [e, e6] at h
    have h : PrSu kd0 [] [su7 450 c 2 (-12)] M := h
    have := (sum_at h (c := 450) (i := c) (c' := 7) (i' := 2) (s := -1) (lo := -12) (hi := -1) List.mem_cons_self).2
    omega
theorem tlS_ok {Ev : Env9} {c : Nat} : ∀ y, ∀ ct ∈ ctL tlS y, ∀ k, 18 ≤ k → CtrOK kd0 sh0 rt0 bd0 (InvR c) Ev (runM k) y ct := ctI_ok (lift_RL (l := tlS) (b := 18) (And.intro (CK_up cc_2 (by decide)) (And.intro (CK_up cc_6 (by decide)) (And.intro (CK_up cc_9 (by decide)) (And.intro (CK_up tvS_ok (by decide)) (And.intro (CK_up teS_ok (by decide)) (And.intro (CK_up cc_39 (by decide)) (And.intro (CK_up cc_280 (by decide)) (And.intro (CK_up cc_284 (by decide)) (And.intro (CK_up cc_288 (by decide)) (And.intro (CK_up cc_292 (by decide)) (And.intro (CK_up cc_296 (by decide)) (And.intro (CK_up cc_300 (by decide)) (And.intro (CK_up cc_301 (by decide)) (And.intro (CK_up cc_302 (by decide)) trivial)))))))))))))) wl_S)
def PP9 (Ev : Env9) (r : Res) : Prop := r.2.1 = Ev ∧ r.2.2.2.2.2.2.1 = 466 ∧ TI kd0 sh0 rt0 bd0 r.2.2.2.2.2.1 ∧ Inv0 r.2.2.2.2.2.1 ∧ CmdC r.2.2.2.2.2.1
theorem parseS {Ev : Env9} {k : Nat} (hk : 50 ≤ k) {M : Mem} (hT0 : TI kd0 sh0 rt0 bd0 M) (hI0 : Inv0 M) : OKo (runM k 7 Ev 466 [vR 448, vR 7] M) (PP9 Ev) := by
  obtain ⟨k', rfl⟩ : ∃ k', k = k' + 1 := ⟨k - 1, by omega⟩
  refine run_st hR9 (md := mdP) (args := ctP.1) (show MDOK bo9 7 mdP from mo_X1_parse rfl _) (Nat.le_of_ble_eq_true rfl) ⟨⟨rfl, by decide⟩, ⟨rfl, by decide⟩, trivial⟩ (fun d ct hmC L hQ => ?_)
  have key : ∀ m c, c + m = 30 → ∀ f, fu 2000000 2000000 m ≤ f → ∀ (L : List AV) (M : Mem), SpOK kd0 (stP c []) L M → TI kd0 sh0 rt0 bd0 M → InvD c M → OKo (runF (runM k') d ct f 1 Ev 466 0 L [] M) (PP9 Ev) := by
    intro m
    induction m with
    | zero =>
      intro c hc f hf L M hQ hT hI
      have hc31 : c < 31 := by omega
      rw [fu_0] at hf
      have e30 : c = 30 := by omega
      subst e30
      have hcnt := fact_at hQ.2.1 (c := 448) (i := 4) (lo := 30) (hi := 30) List.mem_cons_self
      have h44 : rdI M 448 4 = ((30 : Nat) : Int) := Int.le_antisymm hcnt.2 hcnt.1
      refine seg1 (C := 1000000) (F := 0) hu0 (hang_R (c := 30) hc31) (csL (b := 18) (l := tlS) (hang_R hc31) tlS_ok (by omega)) hmC (allN_ok chSx 30 hc31) (Nat.le_trans (Nat.le_of_ble_eq_true rfl) hf) hQ hT ⟨⟨hI.1, h44⟩, hI.2⟩ (fun q q1 => by cases q1) (fun r r1 r2 r3 q => ?_)
      exact ⟨r1, r2, r3.1, InvC_to (Int.le_of_eq r3.2.1.1.2) r3.2.1.1.1, CmdT_to (Int.le_of_eq r3.2.1.1.2) r3.2.1.2⟩
    | succ m ih =>
      intro c hc f hf L M hQ hT hI
      have hc31 : c < 31 := by omega
      have hc30 : c < 30 := by omega
      have hc32 : c + 1 < 31 := by omega
      have hc33 : c + 1 + m = 30 := by omega
      rw [fu_s] at hf
      generalize fu 2000000 2000000 m = Z at ih hf
      have hcnt := fact_at hQ.2.1 (c := 448) (i := 4) (lo := (c : Int)) (hi := (c : Int)) List.mem_cons_self
      have h44 : rdI M 448 4 = (c : Int) := Int.le_antisymm hcnt.2 hcnt.1
      refine seg1 (C := 1000000) (F := Z + 1000000) hu0 (hang_R (c := c) hc31) (csL (b := 18) (l := tlS) (hang_R hc31) tlS_ok (by omega)) hmC (allN_ok chSx c hc31) (fue hf rfl) hQ hT ⟨⟨hI.1, h44⟩, hI.2⟩ (fun q q1 p' q2 f' q3 L' M' q4 q5 => ?_) (fun r r1 r2 r3 q => ?_)
      · obtain ⟨_, q1⟩ := yif_mem q1
        obtain rfl := List.mem_singleton.mp q1
        obtain ⟨rl, hrl, hp'⟩ := List.mem_map.mp q2
        subst hp'
        have hfa : PrFa kd0 [] (relF c rl) M' := fun a ha => q4.2.1 a (List.mem_cons_of_mem _ ha)
        have hrel := relF_ok hrl hfa
        have h49 := fact_at hfa (c := 449) (i := c) (lo := rl.1) (hi := rl.1) List.mem_cons_self
        have hsu := suF_ok q4.2.2 (Int.le_antisymm h49.2 h49.1)
        have hI' : InvD (c + 1) M' := ⟨⟨q5.2.1.1.1.1, fun i h1 h2 => rel_s (fun i a b => q5.2.1.1.1.2 i a b) hrel i h1 h2⟩, fun i h1 h2 => by
          by_cases e : i = c
          · rw [e]; exact hsu
          · exact q5.2.1.2 i (by omega) h2⟩
        refine seg1 (posts := []) (C := 1000000) (F := Z) hu0 (hang_D (c := c + 1) hc32) CS_nil0 hmC (allL_ok (allN_ok chSxb c hc30) rl hrl) (fue0 q3) q4 q5.1 hI' (fun w w1 p2 w2 f2 w3 L2 M2 w4 w5 => ?_) (fun r _ _ _ q => by obtain ⟨p, hp, _⟩ := q; cases hp)
        obtain rfl := List.mem_singleton.mp w1
        obtain rfl := List.mem_singleton.mp w2
        exact ih (c + 1) hc33 f2 w3 L2 M2 w4 w5.1 w5.2.1
      · exact ⟨r1, r2, r3.1, InvC_to (Int.le_of_eq r3.2.1.1.2) r3.2.1.1.1, CmdT_to (Int.le_of_eq r3.2.1.1.2) r3.2.1.2⟩
  have hI0' : InvD 0 M := ⟨⟨⟨hI0.1, hI0.2.1.1, hI0.2.1.2.2, hI0.2.2⟩, fun i h1 _ => by omega⟩, fun i h1 _ => by omega⟩
  refine seg1 (posts := []) (C := 1000000) (F := 100000000) hu0 (hang_D (c := 0) (by decide)) (cs9 (hang_D (by decide)) hR9 hMT9 (by omega)) hmC chSx0 (Nat.le_of_ble_eq_true rfl) hQ hT0 hI0' (fun q q1 p' q2 f' q3 L' M' q4 q5 => ?_) (fun r _ _ _ q => by obtain ⟨p, hp, _⟩ := q; cases hp)
  obtain rfl := List.mem_singleton.mp q1
  obtain rfl := List.mem_singleton.mp q2
  have hfu : fu 2000000 2000000 30 ≤ 100000000 := Nat.le_of_ble_eq_true (by decide +kernel)
  exact key 30 0 (by omega) f' (Nat.le_trans hfu q3) L' M' q4 q5.1 q5.2.1
/-! executeCommands -/
def Inv2 (v u v' u' : Nat → Int) (M : Mem) : Prop := Inv1m v u v' u' M ∧ CmdC M
noncomputable def prCb : Bool := Bool.rec false (Bool.rec false (allN 30 (fun i => Bool.rec false (PR1m (kd0 450) (i : Int)) (PR1m (kd0 449) (i : Int)))) (PR1m (kd0 448) ((4 : Nat) : Int))) (Bool.rec false (PR1m (kd0 7) ((3 : Nat) : Int)) (PR1m (kd0 7) ((2 : Nat) : Int)))
theorem prCm : prCb = true := by decide +kernel
theorem hang_2 {v u v' u' : Nat → Int} : Hang kd0 PR1m (Inv2 v u v' u') := fun M M' h hf => by
  obtain ⟨a, b⟩ := band (show (Bool.rec false (Bool.rec false (allN 30 (fun i => Bool.rec false (PR1m (kd0 450) (i : Int)) (PR1m (kd0 449) (i : Int)))) (PR1m (kd0 448) ((4 : Nat) : Int))) (Bool.rec false (PR1m (kd0 7) ((3 : Nat) : Int)) (PR1m (kd0 7) ((2 : Nat) : Int))) : Bool) = true from prCm)
  obtain ⟨a1, a2⟩ := band a
  obtain ⟨b1, b2⟩ := band b
  refine ⟨hang_1m M M' h.1 hf, CmdC_eq (hf 448 (by decide) 4 b1) (fun i hi => ?_) (hf 7 (by decide) 2 a1) (hf 7 (by decide) 3 a2) h.2⟩
  obtain ⟨c1, c2⟩ := band (show (Bool.rec false (PR1m (kd0 450) (i : Int)) (PR1m (kd0 449) (i : Int)) : Bool) = true from allN_ok b2 i hi)
  exact ⟨hf 449 (by decide) i c1, hf 450 (by decide) i c2⟩
noncomputable def SC9 : Wrg := [(4, 2, 3), (12, 4, 4), (28, 0, 29), (29, 0, 29)]
noncomputable def nC2 (ct : Ctr) : Bool := allL ct.2.2.2.1 (fun a => allL SC9 (dj0m a))
noncomputable def kSCb : Bool := Bool.rec false (Bool.rec false (Bool.rec false (Nat.beq (kd0 450) 29) (Nat.beq (kd0 449) 28)) (Nat.beq (kd0 448) 12)) (Nat.beq (kd0 7) 4)
theorem kSC : kSCb = true := by decide +kernel
theorem nC2_ok {ct : Ctr} (h : nC2 ct = true) {κ i : Nat} {lo hi : Int} (hm : (κ, lo, hi) ∈ SC9) (h1 : lo ≤ (i : Int)) (h2 : (i : Int) ≤ hi) : inW ct.2.2.2.1 κ (i : Int) = false := by
  cases hb : inW ct.2.2.2.1 κ (i : Int) with
  | false => rfl
  | true =>
    exfalso
    obtain ⟨a, m1, m2, m3, m4⟩ := inW_mem hb
    exact dj0_okm (allL_ok (allL_ok h a m1) _ hm) m2.symm m3 m4 h1 h2
theorem lift2 {Ev : Env9} {call : Call} {y : Nat} {ct : Ctr} {v u v' u' : Nat → Int} (h : CtrOK kd0 sh0 rt0 bd0 (Inv1m v u v' u') Ev call y ct) (hw : nC2 ct = true) : CtrOK kd0 sh0 rt0 bd0 (Inv2 v u v' u') Ev call y ct :=
  ctr_lift h (fun M g => g.1) (fun M M' _ g J _ hf _ => by
    obtain ⟨a, b⟩ := band (show (Bool.rec false (Bool.rec false (Bool.rec false (Nat.beq (kd0 450) 29) (Nat.beq (kd0 449) 28)) (Nat.beq (kd0 448) 12)) (Nat.beq (kd0 7) 4) : Bool) = true from kSC)
    obtain ⟨b, c⟩ := band b
    obtain ⟨c, d⟩ := band c
    have a := Nat.eq_of_beq_eq_true a
    have b := Nat.eq_of_beq_eq_true b
    have c := Nat.eq_of_beq_eq_true c
    have d := Nat.eq_of_beq_eq_true d
    exact ⟨J, CmdC_eq (hf 448 (by decide) 4 (by rw [b]; exact nC2_ok hw (lo := 4) (hi := 4) (by decide) (by decide) (by decide))) (fun i hi => ⟨hf 449 (by decide) i (by rw [c]; exact nC2_ok hw (lo := 0) (hi := 29) (by decide) (by omega) (by omega)), hf 450 (by decide) i (by rw [d]; exact nC2_ok hw (lo := 0) (hi := 29) (by decide) (by omega) (by omega))⟩) (hf 7 (by decide) 2 (by rw [a]; exact nC2_ok hw (lo := 2) (hi := 3) (by decide) (by decide) (by decide))) (hf 7 (by decide) 3 (by rw [a]; exact nC2_ok hw (lo := 2) (hi := 3) (by decide) (by decide) (by decide))) g.2⟩)
theorem wPu : inW ct_126.2.2.2.1 (kd0 448) ((4 : Nat) : Int) = false ∧ allN 30 (fun i => Bool.rec false (snot (inW ct_126.2.2.2.1 (kd0 450) (i : Int))) (snot (inW ct_126.2.2.2.1 (kd0 449) (i : Int)))) = true := by decide +kernel
/-- push leaves the counts and the commands -/
theorem push_ok2 {Ev : Env9} {v u v' u' : Nat → Int} : CKI (Inv2 v u v' u') Ev 18 (27, cpPum) := by
  refine ctr_view2 (D := 3) (b := 18) (cc_126 (Ev := Ev)) (by decide) (fun vs h => ?_) (fun M h => h.1.1) (fun vs M h1 _ hT hI => ?_)
  · obtain rfl := as2 (a := 126) (b := 7) h
    exact ⟨⟨⟨rfl, by decide⟩, ⟨7, rfl, by decide, by decide +kernel⟩, trivial⟩, wl2m⟩
  · obtain rfl := as2 (a := 126) (b := 7) h1
    obtain ⟨k2, k3, -⟩ := bd_W hT (show 7 ∈ W9m by decide)
    obtain ⟨n8, c8⟩ := cntHm hT
    obtain ⟨g1, g, e, hc, hg, -, -⟩ := v_pushSm (D := 0) n8 (f0 := rN M) c8 k2 k3
    rw [vup_id rfl] at e hc
    refine ⟨_, _, g, e, fun M' hT' hI' hf hW => ⟨⟨hI', JC_view (A := 128 + 39 * rN M 126 1) (g := g1) (WB_9 _ (W9_sm n8)) hT hT' (fun k hk h9 i => (hf k hk i).trans (hg k i h9)) (fun a b q _ => hc.2.2.2 a b q) hI.1.2.1 (fun _ => MB_cp hc (MB_rn hT (show 7 ∈ WB by decide) hI.1.2.1)), JR_nr n4_126m hW hI.1.2.2⟩, ?_⟩⟩
    have e7 : ∀ i, i = 2 ∨ i = 3 → rdI M' 7 i = rdI M 7 i := fun i hi => by
      rw [(rn7 hT' hi).1, (rn7 hT hi).1, hf 7 (by decide) i, hg 7 i (by decide), hc.2.2.2 7 i (Or.inl (by omega))]
    refine CmdC_eq (hW 448 (by decide) 4 wPu.1) (fun i hi => ?_) (e7 2 (Or.inl rfl)) (e7 3 (Or.inr rfl)) hI.2
    obtain ⟨a, b⟩ := band (show (Bool.rec false (snot (inW ct_126.2.2.2.1 (kd0 450) (i : Int))) (snot (inW ct_126.2.2.2.1 (kd0 449) (i : Int))) : Bool) = true from allN_ok wPu.2 i hi)
    exact ⟨hW 449 (by decide) i (snot_t a), hW 450 (by decide) i (snot_t b)⟩
/-- the kinds of commands, those that pay or teach one by one -/
abbrev RX : Type := (Int × (Int × Int) × (Int × Int)) × List Fct × List (Nat × Ctr)
noncomputable def rxV (n : Nat) : List RX := Nat.rec [] (fun w l => ((5, ((w : Int), (w : Int)), (1, 999)), [f8 7 3 ((w : Int) + 1) 8], [(92, pm w)]) :: l) n
noncomputable def rxE (n : Nat) : List RX := Nat.rec [] (fun w l => ((6, ((w : Int), (w : Int)), (-2147483648, 2147483647)), [f8 7 2 ((w : Int) + 1) 12], [(93, te w)]) :: l) n
noncomputable def rx0 : List RX := [((0, (1, 60), (-2147483648, 2147483647)), [], []), ((1, (-2147483648, 2147483647), (-2147483648, 2147483647)), [], []), ((2, (0, 7), (0, 11)), [], []), ((3, (0, 11), (-2147483648, 2147483647)), [], []), ((4, (0, 7), (1, 99)), [], [])]
theorem rxV_m {w : Nat} : ∀ {n : Nat}, w < n → ((5, ((w : Int), (w : Int)), (1, 999)), [f8 7 3 ((w : Int) + 1) 8], [(92, pm w)]) ∈ rxV n := by
  intro n
  induction n with
  | zero => intro h; omega
  | succ n ih =>
    intro h
    by_cases q : w = n
    · subst q; exact List.mem_cons_self
    · exact List.mem_cons_of_mem _ (ih (by omega))
theorem rxE_m {w : Nat} : ∀ {n : Nat}, w < n → ((6, ((w : Int), (w : Int)), (-2147483648, 2147483647)), [f8 7 2 ((w : Int) + 1) 12], [(93, te w)]) ∈ rxE n := by
  intro n
  induction n with
  | zero => intro h; omega
  | succ n ih =>
    intro h
    by_cases q : w = n
    · subst q; exact List.mem_cons_self
    · exact List.mem_cons_of_mem _ (ih (by omega))
theorem rxV_i {x : RX} : ∀ {n : Nat}, x ∈ rxV n → ∃ w, w < n ∧ x.2.2 = [(92, pm w)] := by
  intro n
  induction n with
  | zero => intro h; cases h
  | succ n ih =>
    intro h
    rcases List.mem_cons.mp h with q | q
    · exact ⟨n, by omega, by rw [q]⟩
    · obtain ⟨w, a, b⟩ := ih q
      exact ⟨w, by omega, b⟩
theorem rxE_i {x : RX} : ∀ {n : Nat}, x ∈ rxE n → ∃ w, w < n ∧ x.2.2 = [(93, te w)] := by
  intro n
  induction n with
  | zero => intro h; cases h
  | succ n ih =>
    intro h
    rcases List.mem_cons.mp h with q | q
    · exact ⟨n, by omega, by rw [q]⟩
    · obtain ⟨w, a, b⟩ := ih q
      exact ⟨w, by omega, b⟩
noncomputable def clXS : List (Nat × Ctr) := [(169, da7), (30, fa7), (84, ct_108), (86, ec7)]
noncomputable def relX : List RX := rx0 ++ (rxV 8 ++ rxE 12)
theorem n2_l : allL clXS (fun p => nC2 p.2) = true := by decide +kernel
theorem n2_pm : allN 8 (fun w => nC2 (pm w)) = true := by decide +kernel
theorem n2_te : allN 12 (fun w => nC2 (te w)) = true := by decide +kernel
theorem n2_146 : nC2 ct_146 = true := by decide +kernel
theorem n2_it {p : Nat × Ctr} (h : p ∈ clXS) : nC2 p.2 = true := allL_ok n2_l p h
theorem clXS_ok {Ev : Env9} {v u v' u' : Nat → Int} {l : List (Nat × Ctr)} (hl : allC (CKI (Inv2 v u v' u') Ev 110) l) : allC (CKI (Inv2 v u v' u') Ev 110) (l ++ clXS) := by
  induction l with
  | cons a l ih => exact ⟨hl.1, ih hl.2⟩
  | nil => exact And.intro (CKI_up (show CKI (Inv2 v u v' u') Ev 45 (169, da7) from fun k hk => lift2 (g1_103_7 k hk) (n2_it (p := (169, da7)) List.mem_cons_self)) (by decide)) (And.intro (CKI_up (show CKI (Inv2 v u v' u') Ev 36 (30, fa7) from fun k hk => lift2 (g1_95_7 k hk) (n2_it (p := (30, fa7)) (List.mem_cons_of_mem _ List.mem_cons_self))) (by decide)) (And.intro (CKI_up (show CKI (Inv2 v u v' u') Ev _ (84, ct_108) from fun k hk => lift2 (lift1m (cc_108 k hk) wf_ct_108m) (n2_it (p := (84, ct_108)) (List.mem_cons_of_mem _ (List.mem_cons_of_mem _ List.mem_cons_self)))) (by decide)) (And.intro (CKI_up (show CKI (Inv2 v u v' u') Ev 9 (86, ec7) from fun k hk => lift2 (ec7_ok k hk) (n2_it (p := (86, ec7)) (List.mem_cons_of_mem _ (List.mem_cons_of_mem _ (List.mem_cons_of_mem _ List.mem_cons_self))))) (by decide)) trivial)))
theorem relX_ok {Ev : Env9} {v u v' u' : Nat → Int} {x : RX} (h : x ∈ relX) : allC (CKI (Inv2 v u v' u') Ev 110) (x.2.2 ++ clXS) := by
  rcases List.mem_append.mp h with q | q
  · refine clXS_ok ?_
    have e : x.2.2 = [] := by
      rcases List.mem_cons.mp q with q | q
      · rw [q]
      rcases List.mem_cons.mp q with q | q
      · rw [q]
      rcases List.mem_cons.mp q with q | q
      · rw [q]
      rcases List.mem_cons.mp q with q | q
      · rw [q]
      · rw [List.mem_singleton.mp q]
    rw [e]; trivial
  · rcases List.mem_append.mp q with q | q
    · obtain ⟨w, hw, e⟩ := rxV_i q
      rw [e]
      exact clXS_ok (And.intro (CKI_up (show CKI (Inv2 v u v' u') Ev 9 (92, pm w) from fun k hk => lift2 (pm_ok hw k hk) (allN_ok n2_pm w hw)) (by decide)) trivial)
    · obtain ⟨w, hw, e⟩ := rxE_i q
      rw [e]
      exact clXS_ok (And.intro (CKI_up (show CKI (Inv2 v u v' u') Ev 9 (93, te w) from fun k hk => lift2 (te_ok hw k hk) (allN_ok n2_te w hw)) (by decide)) trivial)
/-- which row a command is -/
theorem relX_of {c : Nat} {M : Mem} (hT : TI kd0 sh0 rt0 bd0 M) (h : Rel9 (rdI M 449 c) (rdI M 450 c) (rdI M 451 c)) (hC : (rdI M 449 c = 5 → rdI M 450 c < rdI M 7 3) ∧ (rdI M 449 c = 6 → rdI M 450 c < rdI M 7 2)) : ∃ x ∈ relX, PrFa kd0 [] (relF c x.1 ++ x.2.1) M := by
  obtain ⟨q, h1, h2, h3, h4⟩ := h
  have hk3 := bdAt_ok tk7.1 hT
  have hk2 := bdAt_ok tk7.2 hT
  have mk : ∀ (x : Int × (Int × Int) × (Int × Int)) (l : List Fct), rdI M 449 c = x.1 → (x.2.1.1 ≤ rdI M 450 c ∧ rdI M 450 c ≤ x.2.1.2) → (x.2.2.1 ≤ rdI M 451 c ∧ rdI M 451 c ≤ x.2.2.2) → PrFa kd0 [] l M → PrFa kd0 [] (relF c x ++ l) M := fun x l a1 a2 a3 a4 =>
    prFa_app (l := relF c x) (prFa_app (l := [f8 449 c x.1 x.1]) (prFa_1 (c := 449) (i := c) (by omega) (Int.le_of_eq a1.symm) (Int.le_of_eq a1)) (prFa_app (l := [f8 450 c x.2.1.1 x.2.1.2]) (prFa_1 (c := 450) (i := c) (by omega) a2.1 a2.2) (prFa_1 (c := 451) (i := c) (by omega) a3.1 a3.2))) a4
  have low : ∀ x : RX, x ∈ rx0 → x.1 = q → x.2.1 = [] → ∃ x ∈ relX, PrFa kd0 [] (relF c x.1 ++ x.2.1) M := fun x hx e1 e2 => ⟨x, List.mem_append_left _ hx, mk x.1 x.2.1 (by rw [e1]; exact h2) (by rw [e1]; exact h3) (by rw [e1]; exact h4) (by rw [e2]; exact as0)⟩
  rcases List.mem_cons.mp h1 with r | h1
  · exact low _ List.mem_cons_self r.symm rfl
  rcases List.mem_cons.mp h1 with r | h1
  · exact low _ (List.mem_cons_of_mem _ List.mem_cons_self) r.symm rfl
  rcases List.mem_cons.mp h1 with r | h1
  · exact low _ (List.mem_cons_of_mem _ (List.mem_cons_of_mem _ List.mem_cons_self)) r.symm rfl
  rcases List.mem_cons.mp h1 with r | h1
  · exact low _ (List.mem_cons_of_mem _ (List.mem_cons_of_mem _ (List.mem_cons_of_mem _ List.mem_cons_self))) r.symm rfl
  rcases List.mem_cons.mp h1 with r | h1
  · exact low _ (List.mem_cons_of_mem _ (List.mem_cons_of_mem _ (List.mem_cons_of_mem _ (List.mem_cons_of_mem _ List.mem_cons_self)))) r.symm rfl
  rcases List.mem_cons.mp h1 with r | h1
  · subst r
    have h2 : rdI M 449 c = 5 := h2
    have h3 : 0 ≤ rdI M 450 c ∧ rdI M 450 c ≤ 7 := h3
    have h5 := hC.1 h2
    obtain ⟨w, hw, hwe⟩ : ∃ w : Nat, w < 8 ∧ rdI M 450 c = (w : Int) := ⟨(rdI M 450 c).toNat, by omega, by omega⟩
    exact ⟨_, List.mem_append_right _ (List.mem_append_left _ (rxV_m hw)), mk _ _ h2 (by rw [hwe]; exact ⟨Int.le_refl _, Int.le_refl _⟩) h4 (prFa_1 (c := 7) (i := 3) (by decide) (by omega) hk3.2)⟩
  · obtain rfl := List.mem_singleton.mp h1
    have h2 : rdI M 449 c = 6 := h2
    have h3 : 0 ≤ rdI M 450 c ∧ rdI M 450 c ≤ 11 := h3
    have h5 := hC.2 h2
    obtain ⟨w, hw, hwe⟩ : ∃ w : Nat, w < 12 ∧ rdI M 450 c = (w : Int) := ⟨(rdI M 450 c).toNat, by omega, by omega⟩
    exact ⟨_, List.mem_append_right _ (List.mem_append_right _ (rxE_m hw)), mk _ _ h2 (by rw [hwe]; exact ⟨Int.le_refl _, Int.le_refl _⟩) h4 (prFa_1 (c := 7) (i := 2) (by decide) (by omega) hk2.2)⟩
noncomputable def chX1S (j : Nat) : Bool := Bool.rec false (allL relX (fun x => xseg kd0 sh0 rt0 bd0 un0 (inW wX) PR1m MT0 (ctL (x.2.2 ++ clXS)) 6 mdX [(3, [stX3 (j + 1) []])] pXr 1000000 3 (stX3 j (f8 448 4 ((j : Int) + 1) 30 :: (relF j x.1 ++ x.2.1))))) (xseg kd0 sh0 rt0 bd0 un0 (inW wX) PR1m MT0 CT9 0 mdX [] pXr 1000000 3 (stX3 j [f8 448 4 0 j]))
theorem chX_allS : allN 30 chX1S = true := by decide +kernel
theorem chX30S : xseg kd0 sh0 rt0 bd0 un0 (inW wX) PR1m MT0 CT9 0 mdX [] pXr 1000000 3 (stX3 30 [f8 448 4 0 30]) = true := by decide +kernel
theorem bCntS : bdAt 448 4 0 30 = true := by decide +kernel
noncomputable def qXS : DB := ([(5, 2, 0, 0, 0, 0, 0), (31, 13, 167, 1, 0, 7, 0), (5, 2, 0, 0, 0, 0, 0), (21, 10, 0, 0, 0, 0, 0), (0, 0, 0, 0, 0, 0, 0), (22, 0, 0, 1, 0, 0, 0), (5, 0, 1, 0, 0, 0, 0)], ((2, 2, 1, 2, 0, 0, 0), []))
noncomputable def sXS : SPt := ([some (1, 0, 0), some (0, 0, 1), none], [], [])
noncomputable def pXS : List Pst := [((2, 1), (1, 0, 0), [fLen], [])]
theorem chXS : xmid kd0 sh0 rt0 bd0 un0 (inW wX) PR1m MT0 (ctL [(167, ct_146), (27, cpPum)]) 4 mdX [(3, [stX3 0 []])] pXS 1000000 qXS sXS = true := by decide +kernel
theorem wf_ctPm : wfreem ctP = true := by decide +kernel
theorem wf_ct_146m : wfreem ct_146 = true := by decide +kernel
theorem wP_XX : allL wP (fun a => allN (a.2.2 + 1 - a.2.1).toNat (fun i => inW wX a.1 (a.2.1 + (i : Int)))) = true := by decide +kernel
theorem wP_X : ∀ a ∈ wP, ∀ {κ : Nat} {i : Int}, a.1 = κ → a.2.1 ≤ i → i ≤ a.2.2 → inW wX κ i = true := fun a ha κ i e h1 h2 => by
  have h := allN_ok (allL_ok wP_XX a ha) (i - a.2.1).toNat (by omega)
  rw [show a.2.1 + (((i - a.2.1).toNat : Nat) : Int) = i by omega, e] at h
  exact h
theorem g1_Xm {Ev : Env9} {v u v' u' : Nat → Int} : CKI (Inv1m v u v' u') Ev 120 (102, ctX) := by
  intro k hk vs M h1 h2 h3 hT hI
  obtain rfl := as1 (a := 0) h1
  obtain ⟨k', rfl⟩ : ∃ k', k = k' + 1 := ⟨k - 1, by omega⟩
  obtain ⟨d, ct, hmC, hrun⟩ := (show MDOK bo9 102 mdX from mo_X10_executeCommands rfl _)
  obtain ⟨r, e, r1, r2, r3, r4, r5, p, p1, p2⟩ := (show CKI (Inv1m v u v' u') Ev 50 (7, ctP) from fun k hk => lift1m (f_parse k hk) wf_ctPm) k' (by omega) [vR 448, vR 7] M (show asOK kd0 ctP.1 [vR 448, vR 7] from ⟨⟨rfl, by decide⟩, ⟨rfl, by decide⟩, trivial⟩) (fun a ha => by cases ha) (fun a ha => by cases ha) hT hI
  obtain ⟨r', e', s1, s2, s3, s4, s5⟩ := parseS (Ev := Ev) (k := k') (by omega) hT hI.1
  have e2 : some [r] = some [r'] := e.symm.trans e'
  injection e2 with e3
  injection e3 with e4
  subst e4
  obtain rfl := List.mem_singleton.mp p1
  obtain ⟨p3, p4, -⟩ := p2
  obtain ⟨x, hx1, hx2, hx3, hx4⟩ := p4 (by rw [p3])
  obtain ⟨re, rE, rv, rS, rL, M1, rn, rz⟩ := r
  have p3 : re = (0, 0) := p3
  have r1 : rE = Ev := r1
  have r2 : rn = 466 := r2
  have hx1 : rv = vI x := hx1
  subst p3 r1 r2 hx1
  have r3 : TI kd0 sh0 rt0 bd0 M1 := r3
  have r4 : Inv1m v u v' u' M1 := r4
  have s5 : CmdC M1 := s5
  have r5 : ∀ k : Nat, k < 466 → ∀ i : Nat, inW wP (kd0 k) i = false → rdI M1 k i = rdI M k i := r5
  let M0 := M
  have hW : ∀ κ i, inW wP κ i = true → inW wX κ i = true := fun κ i h => by
    obtain ⟨a, m1, m2, m3, m4⟩ := inW_mem (i := i) h
    exact wP_X a m1 m2 m3 m4
  have hFr : Fr kd0 (inW wX) M M1 := fr_tr (W := inW wX) (fun _ _ _ _ => rfl) (fun k hk i hi => r5 k hk i hi) hW
  have hP : ∀ r : Res, r.2.1 = Ev → r.2.2.2.2.2.2.1 = 466 → GM kd0 sh0 rt0 bd0 (inW wX) (Inv2 v u v' u') M r.2.2.2.2.2.1 → (∃ q ∈ ctX.2.2.2.2, pOK kd0 q r) → EnP kd0 sh0 rt0 bd0 (Inv1m v u v' u') Ev ctX M r := fun r r1 r2 r3 q => ⟨r1, r2, r3.1, r3.2.1.1, r3.2.2, q⟩
  have hPr : ∀ r : Res, r.2.1 = Ev → r.2.2.2.2.2.2.1 = 466 → GM kd0 sh0 rt0 bd0 (inW wX) (Inv2 v u v' u') M r.2.2.2.2.2.1 → (∃ q ∈ pXr, pOK kd0 q r) → EnP kd0 sh0 rt0 bd0 (Inv1m v u v' u') Ev ctX M r := fun r r1 r2 r3 q => hP r r1 r2 r3 (by obtain ⟨p, hp, hp2⟩ := q; exact ⟨p, List.mem_cons_of_mem _ hp, hp2⟩)
  have hC9 : CS kd0 sh0 rt0 bd0 (inW wX) (Inv2 v u v' u') M Ev (runM k') (xM kd0 sh0 rt0 bd0 un0 (inW wX) PR1m MT0 CT9 0) := cs9 hang_2 hR9 hMT9 (by omega)
  have hCX : ∀ x : RX, x ∈ relX → CS kd0 sh0 rt0 bd0 (inW wX) (Inv2 v u v' u') M Ev (runM k') (xM kd0 sh0 rt0 bd0 un0 (inW wX) PR1m MT0 (ctL (x.2.2 ++ clXS)) 6) := fun x hx => csL hang_2 (ctI_ok (b := 110) (relX_ok hx)) (by omega)
  have stop : ∀ j, j ≤ 30 → xseg kd0 sh0 rt0 bd0 un0 (inW wX) PR1m MT0 CT9 0 mdX [] pXr 1000000 3 (stX3 j [f8 448 4 0 j]) = true → ∀ f, 1000000 ≤ f → ∀ (L : List AV) (M9 : Mem), SpOK kd0 (stX3 j []) L M9 → GM kd0 sh0 rt0 bd0 (inW wX) (Inv2 v u v' u') M M9 → rdI M9 448 4 ≤ (j : Int) → OKo (runF (runM k') d ct f 3 Ev 466 0 L [] M9) (EnP kd0 sh0 rt0 bd0 (Inv1m v u v' u') Ev ctX M) := by
    intro j hj hx f hf L M9 hQ hM hc
    have hb := bdAt_ok bCntS hM.1
    exact xseg_ok (C := 1000000) (F := 0) hu0 hang_2 hC9 hmC hx (fun q q1 => by cases q1) hPr f hf L M9 ⟨hQ.1, prFa_app (l := [fLen]) hQ.2.1 (prFa_1 (c := 448) (i := 4) (by decide) hb.1 hc), fun q hq => by cases hq⟩ hM
  have key : ∀ m j, j + m = 30 → ∀ f, fu 2000000 2000000 m ≤ f → ∀ (L : List AV) (M9 : Mem), SpOK kd0 (stX3 j []) L M9 → GM kd0 sh0 rt0 bd0 (inW wX) (Inv2 v u v' u') M M9 → OKo (runF (runM k') d ct f 3 Ev 466 0 L [] M9) (EnP kd0 sh0 rt0 bd0 (Inv1m v u v' u') Ev ctX M) := by
    intro m
    induction m with
    | zero =>
      intro j hj f hf L M9 hQ hM
      rw [fu_0] at hf
      have e : j = 30 := by omega
      subst e
      exact stop 30 (Nat.le_refl _) chX30S f (Nat.le_trans (nle rfl) hf) L M9 hQ hM (bdAt_ok bCntS hM.1).2
    | succ m ih =>
      intro j hj f hf L M9 hQ hM
      have hj30 : j < 30 := by omega
      have hj31 : j + 1 + m = 30 := by omega
      rw [fu_s] at hf
      have hZ := fu_b 2000000 2000000 m
      generalize fu 2000000 2000000 m = Z at ih hf hZ
      obtain ⟨g1, g2⟩ := band (a := xseg kd0 sh0 rt0 bd0 un0 (inW wX) PR1m MT0 CT9 0 mdX [] pXr 1000000 3 (stX3 j [f8 448 4 0 j])) (b := allL relX (fun x => xseg kd0 sh0 rt0 bd0 un0 (inW wX) PR1m MT0 (ctL (x.2.2 ++ clXS)) 6 mdX [(3, [stX3 (j + 1) []])] pXr 1000000 3 (stX3 j (f8 448 4 ((j : Int) + 1) 30 :: (relF j x.1 ++ x.2.1))))) (allN_ok chX_allS j hj30)
      by_cases hc : rdI M9 448 4 ≤ (j : Int)
      · exact stop j (Nat.le_of_lt hj30) g1 f (fue3 hf (nle rfl)) L M9 hQ hM hc
      · have hb := bdAt_ok bCntS hM.1
        obtain ⟨q, hq, hqf⟩ := relX_of hM.1 (hM.2.1.1.1.2.1.2.1 j hj30 (Int.not_le.mp hc)) (hM.2.1.2 j hj30 (Int.not_le.mp hc))
        refine xseg_ok (C := 1000000) (F := Z) hu0 hang_2 (hCX q hq) hmC (allL_ok g2 q hq) (fun w w1 p w2 => ?_) hPr f (fue4 hf (nle rfl)) L M9 ⟨hQ.1, prFa_app (l := [fLen]) hQ.2.1 (prFa_app (l := [f8 448 4 ((j : Int) + 1) 30]) (prFa_1 (c := 448) (i := 4) (by decide) (ile1 hc) hb.2) hqf), fun q hq => by cases hq⟩ hM
        obtain rfl := List.mem_singleton.mp w1
        obtain rfl := List.mem_singleton.mp w2
        exact fun f' hf' L' M' h9 h8 => ih (j + 1) hj31 f' hf' L' M' h9 h8
  have hfu : fu 2000000 2000000 30 ≤ 62000000 := Nat.le_of_ble_eq_true (by decide +kernel)
  have hb : tget d ct 0 = (op_ld (fP 2) 0 :: op_getf 10 12 :: op_ld (fP 2) 0 :: op_getf 10 3 :: op_call (gN 4) 7 2 0 7 :: op_st (fP 0) 1 :: dnL 0 qXS.1, dtm 0 qXS.2) := hmC 0 _ rfl
  have er : runM (k' + 1) 102 Ev 466 [vR 0] M = runF (runM k') d ct 1000000000000 0 Ev 466 0 [vR 0, vW 3, vW 3] [] M := (hR9 k' 102 Ev 466 [vR 0] M).trans ((hrun (runM k') Ev 466 [vR 0] M).trans rfl)
  obtain ⟨o, o1, o2, o3, ⟨f12, o12⟩, f3, o4⟩ := so0X
  obtain ⟨fs, c1, c2, c3⟩ := co_obj hT (show 0 < 466 by decide) o1
  have d12 : nth fs 12 = vR 448 := by
    have w := (c3 12 _ o12).1
    rw [rt12X.1] at w
    exact w
  have d3 : nth fs 3 = vR 7 := by
    have w := (c3 3 _ o4).1
    rw [rt12X.2] at w
    exact w
  rw [o2] at c1
  obtain ⟨f, ef, hf1⟩ : ∃ f, 1000000000000 = f + 1 ∧ 1000000 + 62000000 ≤ f := ⟨999999999999, rfl, by decide⟩
  have mid := xmid_ok (C := 1000000) (F := 62000000) hu0 hang_2 (csL (b := 110) (l := [(167, ct_146), (27, cpPum)]) (Wp := inW wX) (M0 := M) (D := 4) (k := k') (Ev := Ev) hang_2 (ctI_ok (And.intro (CKI_up (show CKI (Inv2 v u v' u') Ev _ (167, ct_146) from fun k hk => lift2 (lift1m (cc_146 k hk) wf_ct_146m) n2_146) (by decide)) (And.intro (CKI_up push_ok2 (by decide)) trivial))) (by omega)) hmC chXS (fun q q1 p q2 => by
    obtain rfl := List.mem_singleton.mp q1
    obtain rfl := List.mem_singleton.mp q2
    exact fun f hf L M9 h9 h8 => key 30 0 (by omega) f (Nat.le_trans hfu hf) L M9 h9 h8) (P := EnP kd0 sh0 rt0 bd0 (Inv1m v u v' u') Ev ctX M) (fun r r1 r2 r3 q => hP r r1 r2 r3 (by obtain ⟨p, hp, hp2⟩ := q; exact ⟨p, by rw [List.mem_singleton.mp hp]; exact List.mem_cons_self, hp2⟩)) f hf1 [vR 0, vI x, vW 3] M1 ⟨⟨⟨rfl, by decide⟩, ⟨x, rfl, hx2, hx3, hx4⟩, rfl, trivial⟩, as0, fun q hq => by cases hq⟩ ⟨r3, ⟨r4, s5⟩, hFr⟩
  rw [er, ef, rF9 f hb]
  refine okEq ?_ mid
  refine (rb_ld rfl).trans ?_
  refine (rb_getfB c1 (by rw [c2, o3]; decide)).trans ?_
  rw [d12]
  refine (rb_ld rfl).trans ?_
  refine (rb_getfB c1 (by rw [c2, o3]; decide)).trans ?_
  rw [d3]
  refine (rb_callB (as := [vR 448, vR 7]) (rest := []) rfl rfl rfl (by decide) (gv_of hT (by decide) sh448X) e).trans ?_
  exact (rb_stB rfl rfl).trans rfl
