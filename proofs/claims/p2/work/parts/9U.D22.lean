/-! the line 'tested'; the end of a line -/
noncomputable def ctM0 (b : Nat) : Ctr := ([(1, 452, 0), (0, (b : Int), (b : Int))], [fM 17 0 900, fM 20 0 0], [], [(13, 17, 21)], [((0, 0), (0, 0, 11 - 4 * (b : Int)), [fM 17 0 900, fM 20 0 0], []), ((0, 0), (0, 0, 0), [fM 17 0 900, fM 20 1 4], [])])
noncomputable def ctM1 (b : Nat) : Ctr := ([(1, 452, 0), (0, (b : Int), (b : Int))], [fM 20 1 4], [], [], [((0, 0), (0, 0, 0), [], [])])
noncomputable def clM : List (Nat × Ctr) := [(229, ctNx), (232, ctGp), (240, ct_249), (240, ct_257)]
noncomputable def mdM : MDT := (3, nb_X11_mustBe, [])
theorem chM00 : xctr kd0 sh0 rt0 bd0 un0 PRA MT0 (ctL clM) 8 mdM (ctM0 0) = true := by decide +kernel
theorem chM01 : xctr kd0 sh0 rt0 bd0 un0 PRA MT0 (ctL clM) 8 mdM (ctM0 1) = true := by decide +kernel
theorem chM10 : xctr kd0 sh0 rt0 bd0 un0 PRA MT0 (ctL clM) 8 mdM (ctM1 0) = true := by decide +kernel
theorem chM11 : xctr kd0 sh0 rt0 bd0 un0 PRA MT0 (ctL clM) 8 mdM (ctM1 1) = true := by decide +kernel
theorem clM_ok {Ev : Env9} {a : Int} (h0 : CK Ev 40 (240, ct_249)) (h1 : CK Ev 40 (240, ct_257)) : ∀ y, ∀ ct ∈ ctL clM y, ∀ k, 40 ≤ k → CtrOK kd0 sh0 rt0 bd0 (InvA a) Ev (runM k) y ct := caL_ok (l := clM) (And.intro (CA_up nx_A (by decide)) (And.intro (CA_up gp_A (by decide)) (And.intro (CA_of h0 (by decide) rfl) (And.intro (CA_of h1 (by decide) rfl) trivial))))
theorem mdM_ok : MDOK bo9 241 mdM := mo_X11_mustBe rfl _
noncomputable def clT : List (Nat × Ctr) := [(232, ctGp), (241, ctM0 0), (241, ctM0 1), (241, ctM1 0), (241, ctM1 1)]
noncomputable def ctTl : Ctr := ([(1, 452, 0)], [fM 17 0 900, fM 18 0 900, fM 19 0 900, fM 20 0 0], [sBW, sBA 0 0], [(13, 17, 21), (31, 339, 626)], [((1, 0), (1, 0, 0), [fM 17 0 900, fM 20 0 0], []), ((1, 0), (1, 0, 0), [fM 17 0 900, fM 20 1 4], [])])
noncomputable def mdTl : MDT := (3, nb_X11_testedLine, [])
theorem chTl : xctr kd0 sh0 rt0 bd0 un0 PRA MT0 (ctL clT) 8 mdTl ctTl = true := by decide +kernel
theorem tl_A {Ev : Env9} {a : Int} (h0 : CK Ev 40 (240, ct_249)) (h1 : CK Ev 40 (240, ct_257)) : CA a Ev 60 (250, ctTl) := fun k hk =>
  xctr_ok hu0 hang_A hR9 hMT9 (b := 49) (caL_ok (l := clT) (And.intro (CA_up gp_A (by decide)) (And.intro (fun k hk => xctr_ok hu0 hang_A hR9 hMT9 (b := 40) (clM_ok h0 h1) mdM_ok chM00 k hk) (And.intro (fun k hk => xctr_ok hu0 hang_A hR9 hMT9 (b := 40) (clM_ok h0 h1) mdM_ok chM01 k hk) (And.intro (fun k hk => xctr_ok hu0 hang_A hR9 hMT9 (b := 40) (clM_ok h0 h1) mdM_ok chM10 k hk) (And.intro (fun k hk => xctr_ok hu0 hang_A hR9 hMT9 (b := 40) (clM_ok h0 h1) mdM_ok chM11 k hk) trivial)))))) (show MDOK bo9 250 mdTl from mo_X11_testedLine rfl _) chTl k (by omega)
/-! ends that tell a number by what stood at the start -/
section LIFTD
variable {kd : Nat → Nat} {sh : Nat → Sh} {rt : Nat → Nat → Nat} {bd : Nat → Int → Int × Int} {un : Nat → Bool} {Wp PR : Nat → Int → Bool} {Inv : Mem → Prop} {Ev : Env9}
abbrev PstD : Type := Pst × List Rl9
noncomputable def yanyD (o : Out) (H0 : OV) (l : List PstD) : Bool := List.rec false (fun p _ ih => Bool.rec ih true (Bool.rec false (yeqd o.2.2.2.1 H0 p.2) (ypm o p.1))) l
theorem yanyD_mem {o : Out} {H0 : OV} : ∀ {l : List PstD}, yanyD o H0 l = true → ∃ p ∈ l, ypm o p.1 = true ∧ yeqd o.2.2.2.1 H0 p.2 = true := by
  intro l
  induction l with
  | nil => intro h; cases h
  | cons p l ih =>
    intro h
    have h : (Bool.rec (yanyD o H0 l) true (Bool.rec false (yeqd o.2.2.2.1 H0 p.2) (ypm o p.1)) : Bool) = true := h
    cases hb : (Bool.rec false (yeqd o.2.2.2.1 H0 p.2) (ypm o p.1) : Bool) with
    | true => obtain ⟨h1, h2⟩ := band hb; exact ⟨p, List.mem_cons_self, h1, h2⟩
    | false => rw [hb] at h; obtain ⟨q, h1, h2⟩ := ih h; exact ⟨q, List.mem_cons_of_mem _ h1, h2⟩
noncomputable def xsegD (kd : Nat → Nat) (sh : Nat → Sh) (rt : Nat → Nat → Nat) (bd : Nat → Int → Int × Int) (un : Nat → Bool) (Wp PR : Nat → Int → Bool) (MT : Nat → Option MDT) (CT : Nat → List Ctr) (D : Nat) (md : MDT) (posts : List PstD) (C b : Nat) (p : SPt) : Bool := match yspS p with
  | some σ => (match xsegT kd sh bd (xcode kd sh rt bd un Wp PR md.2.1) (xanL md.2.2) (fun _ => none) (xM kd sh rt bd un Wp PR MT CT D) b σ with
    | some r => Bool.rec false (allL r.2 (fun o => yanyD o σ.2.2.2.1 posts)) (Nat.ble r.1 C)
    | none => false)
  | none => true
theorem xsegD_ok (hu : ∀ κ v, un κ = true → bd κ v = bd κ 0) (hI : Hang kd PR Inv) {MT : Nat → Option MDT} {CT : Nat → List Ctr} {D : Nat} {call : Call} {L : List AV} {M : Mem} (hC : CS kd sh rt bd Wp Inv M Ev call (xM kd sh rt bd un Wp PR MT CT D)) {md : MDT} {d : Nat} {ct : TrT Blk d} (hmd : MdC md d ct) {posts : List PstD} {C b f : Nat} {p : SPt} {P : Res → Prop} (h : xsegD kd sh rt bd un Wp PR MT CT D md posts C b p = true) (hf : C ≤ f) (hQ : SpOK kd p L M) (hT : TI kd sh rt bd M) (hInv : Inv M)
    (hP : ∀ r : Res, r.2.1 = Ev → r.2.2.2.2.2.2.1 = 466 → GM kd sh rt bd Wp Inv M r.2.2.2.2.2.1 → (∃ q ∈ posts, pOK kd q.1 r ∧ ∀ e ∈ q.2, rdI r.2.2.2.2.2.1 e.1.1 e.1.2 = rdI M e.2.1.1 e.2.1.2 + e.2.2) → P r) : OKo (runF call d ct f b Ev 466 0 L [] M) P := by
  obtain ⟨σ, G, e1, e2, e3⟩ := yspS_ok hQ
  unfold xsegD at h
  rw [e1] at h
  cases hr : xsegT kd sh bd (xcode kd sh rt bd un Wp PR md.2.1) (xanL md.2.2) (fun _ => none) (xM kd sh rt bd un Wp PR MT CT D) b σ with
  | none => simp only [hr] at h; cases h
  | some r =>
    simp only [hr] at h
    obtain ⟨k1, k2⟩ := band h
    have k1 := Nat.le_of_ble_eq_true k1
    have key := xsegT_ok (Zo := 0) (F := 0) (P := P) hC (ct := ct) (fun b xl hx => by
      unfold xcode at hx
      cases hq : yat md.2.1 b with
      | none => rw [hq] at hx; cases hx
      | some q =>
        rw [hq] at hx
        cases hx
        rw [hmd b q hq]
        exact xiB_ok (Z := 0) hu hI (Nat.le_refl _) q) (stp := fun _ => none) (fun b' k hk => nomatch hk) hr (f := f) (by omega) (fun o hm G1 r1 q1 q2 q3 q4 q5 q6 q7 q8 => by
      obtain ⟨p1, p2, p3, p4⟩ := yanyD_mem (allL_ok k2 o hm)
      exact hP r1 q6 q7 q4 ⟨p1, p2, ypm_ok p3 q2 q3 q5 q8, yeqd_ok q1 q3 e2.2.2.2 p4⟩) e2 ⟨hT, hInv, fun _ _ _ _ => rfl⟩
    rw [e3] at key
    exact key
end LIFTD
/-- the end of a line: where there is no error at the end, it has gone forward by one more -/
noncomputable def mdSe : MDT := (1, nb_X11_semicolon, [])
noncomputable def stSe5 : SPt := ([some (1, 452, 0)], [fM 17 0 900, fM 20 0 0], [])
noncomputable def ctSc : Ctr := ([(1, 452, 0)], [fM 17 0 900, fM 20 0 0], [], [(13, 17, 21)], [((1, 0), (1, 0, 0), [fM 17 0 900, fM 20 0 0], []), ((1, 0), (1, 0, 0), [fM 17 0 901, fM 20 1 4], [])])
theorem chSc0 : xseg kd0 sh0 rt0 bd0 un0 (inW [(13, 17, 21)]) PRA MT0 (ctL [(229, ctNx)]) 4 mdSe [(5, [([some (1, 452, 0)], [fM 17 0 900, fM 20 0 0], [])])] [] 1000000 0 (spI 1 ctSc.1, ctSc.2.1, []) = true := by decide +kernel
theorem chSc5 : xsegD kd0 sh0 rt0 bd0 un0 (inW [(13, 17, 21)]) PR0 MT0 CT9 4 mdSe [(((1, 0), (1, 0, 0), [fM 17 0 900, fM 20 0 0], []), rNx), (((1, 0), (1, 0, 0), [fM 17 0 901, fM 20 1 4], []), rNx)] 1000000 5 stSe5 = true := by decide +kernel
theorem semi_A {Ev : Env9} {a : Int} {k : Nat} (hk : 20 ≤ k) {M : Mem} (hT : TI kd0 sh0 rt0 bd0 M) (hI : InvA a M) (hf : PrFa kd0 [] [fM 17 0 900, fM 20 0 0] M) : OKo (runM k 234 Ev 466 [vR 452] M) (fun r => EnP kd0 sh0 rt0 bd0 Inv0 Ev ctSc M r ∧ a + 1 ≤ rdI r.2.2.2.2.2.1 452 17) := by
  obtain ⟨k', rfl⟩ : ∃ k', k = k' + 1 := ⟨k - 1, by omega⟩
  obtain ⟨d, ct, e1, e2⟩ : MDOK bo9 234 mdSe := mo_X11_semicolon rfl _
  have hmC : MdC mdSe d ct := e1
  rw [hR9, e2]
  show OKo (gd (Nat.ble 1 1) (runF (runM k') d ct 1000000000000 0 Ev 466 0 [vR 452] [] M)) _
  rw [show Nat.ble 1 1 = true from rfl, gdt]
  have hk12 : 12 ≤ k' := by omega
  have hk4 : 4 ≤ k' := by omega
  have hL : lOK kd0 (spI 1 ctSc.1) [vR 452] := ⟨⟨rfl, by decide⟩, trivial⟩
  refine seg1 (posts := []) (C := 1000000) (F := 1000000) hu0 hang_A (cs1 (b := 8) hang_A next_A hk12) hmC chSc0 (nle rfl) ⟨hL, hf, fun q hq => by cases hq⟩ hT hI (fun q q1 p' q2 f' q3 L' M' q4 q5 => ?_) (fun r _ _ _ q => by obtain ⟨p, hp, _⟩ := q; cases hp)
  obtain rfl := List.mem_singleton.mp q1
  obtain rfl := List.mem_singleton.mp q2
  refine xsegD_ok (C := 1000000) hu0 hang_0 (cs9 hang_0 hR9 hMT9 hk4) hmC chSc5 q3 q4 q5.1 q5.2.1.1 (fun r r1 r2 r3 q => ?_)
  obtain ⟨w, hw, hw1, hw2⟩ := q
  have hA := q5.2.1.2
  have hr : rdI r.2.2.2.2.2.1 452 17 = rdI M' 452 17 + 1 := by
    rcases List.mem_cons.mp hw with e | hw
    · subst e; exact hw2 _ (List.mem_singleton.mpr rfl)
    · obtain rfl := List.mem_singleton.mp hw; exact hw2 _ (List.mem_singleton.mpr rfl)
  refine ⟨⟨r1, r2, r3.1, r3.2.1, fr_tr q5.2.2 r3.2.2 (fun _ _ h => h), ?_⟩, by omega⟩
  rcases List.mem_cons.mp hw with e | hw
  · subst e; exact ⟨_, List.mem_cons_self, hw1⟩
  · obtain rfl := List.mem_singleton.mp hw; exact ⟨_, List.mem_cons_of_mem _ List.mem_cons_self, hw1⟩
