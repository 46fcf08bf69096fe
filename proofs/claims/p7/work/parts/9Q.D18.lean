/-! the class does its commands -/
theorem fue3 {Z f b c : Nat} (h : Z + c ≤ f) (hb : b ≤ c) : b ≤ f := by omega
theorem fue4 {Z f a c : Nat} (h : Z + c ≤ f) (ha : a ≤ c) : a + Z ≤ f := by omega
theorem nle {a b : Nat} (h : Nat.ble a b = true) : a ≤ b := Nat.le_of_ble_eq_true h
theorem ile1 {a b : Int} (h : ¬ a ≤ b) : b + 1 ≤ a := by omega
noncomputable def mdX : MDT := (3, nb_X10_executeCommands, [])
noncomputable def wX : Wrg := [(4, 0, 10), (5, 0, 8), (6, 0, 11), (19, 0, 2), (20, 0, 11), (23, 0, 11), (24, 0, 11), (25, 0, 7), (26, 0, 95), (27, 0, 107), (9, 5, 5), (10, 1, 7), (12, 4, 4), (28, 0, 29), (29, 0, 29), (30, 0, 29), (8, 1, 2), (0, 13, 14), (1, 1, 1)]
noncomputable def fLen : Fct := f8 1 1 0 0
noncomputable def pXr : List Pst := [((0, 0), (0, -2147483648, 2147483647), [fLen], [])]
noncomputable def ctX : Ctr := ([(1, 0, 0)], [], [], wX, ((2, 1), (1, 0, 0), [fLen], []) :: pXr)
noncomputable def stX3 (j : Nat) (f : List Fct) : SPt := ([some (1, 0, 0), none, some (0, (j : Int), (j : Int))], fLen :: f, [])
noncomputable def clX0 : List (Nat × Ctr) := [(7, ctP), (167, ct_146), (27, ct_126)]
noncomputable def clX : List (Nat × Ctr) := [(169, ct_103), (30, ct_95), (84, ct_108), (86, ct_100)]
noncomputable def chX1 (j : Nat) : Bool := Bool.rec false (allL relL (fun q => xseg kd0 sh0 rt0 bd0 un0 (inW wX) PR0 MT0 (ctL clX) 6 mdX [(3, [stX3 (j + 1) []])] pXr 1000000 3 (stX3 j (f8 448 4 ((j : Int) + 1) 30 :: relF j q)))) (xseg kd0 sh0 rt0 bd0 un0 (inW wX) PR0 MT0 CT9 0 mdX [] pXr 1000000 3 (stX3 j [f8 448 4 0 j]))
theorem chX_all : allN 30 chX1 = true := by decide +kernel
theorem chX30 : xseg kd0 sh0 rt0 bd0 un0 (inW wX) PR0 MT0 CT9 0 mdX [] pXr 1000000 3 (stX3 30 [f8 448 4 0 30]) = true := by decide +kernel
theorem chX0 : xseg kd0 sh0 rt0 bd0 un0 (inW wX) PR0 MT0 (ctL clX0) 4 mdX [(3, [stX3 0 []])] [((2, 1), (1, 0, 0), [fLen], [])] 1000000 0 (spI 3 ctX.1, [], []) = true := by decide +kernel
theorem bCnt : bdAt 448 4 0 30 = true := by decide +kernel
theorem exec_ok {Ev : Env9} (h1 : CK Ev 50 (7, ctP)) (h2 : CK Ev 110 (167, ct_146)) (h3 : CK Ev 110 (27, ct_126)) (h4 : CK Ev 110 (169, ct_103)) (h5 : CK Ev 110 (30, ct_95)) (h6 : CK Ev 110 (84, ct_108)) (h7 : CK Ev 110 (86, ct_100)) : CK Ev 120 (102, ctX) := by
  intro k hk
  obtain ⟨k', rfl⟩ : ∃ k', k = k' + 1 := ⟨k - 1, by omega⟩
  refine ctr_st hR9 (md := mdX) (show MDOK bo9 102 mdX from mo_X10_executeCommands rfl _) (Nat.le_of_ble_eq_true rfl) (fun d ct hmC M0 hI0 _ => ?_)
  have hP : ∀ r : Res, r.2.1 = Ev → r.2.2.2.2.2.2.1 = 466 → GM kd0 sh0 rt0 bd0 (inW wX) Inv0 M0 r.2.2.2.2.2.1 → (∃ q ∈ pXr, pOK kd0 q r) → EnP kd0 sh0 rt0 bd0 Inv0 Ev ctX M0 r := fun r r1 r2 r3 q => ⟨r1, r2, r3.1, r3.2.1, r3.2.2, by obtain ⟨p, hp, hp2⟩ := q; exact ⟨p, List.mem_cons_of_mem _ hp, hp2⟩⟩
  have hC9 : CS kd0 sh0 rt0 bd0 (inW wX) Inv0 M0 Ev (runM k') (xM kd0 sh0 rt0 bd0 un0 (inW wX) PR0 MT0 CT9 0) := cs9 hang_0 hR9 hMT9 (by omega)
  have hCX : CS kd0 sh0 rt0 bd0 (inW wX) Inv0 M0 Ev (runM k') (xM kd0 sh0 rt0 bd0 un0 (inW wX) PR0 MT0 (ctL clX) 6) := csL hang_0 (ctL_ok (b := 110) (l := clX) (And.intro h4 (And.intro h5 (And.intro h6 (And.intro h7 trivial))))) (by omega)
  have stop : ∀ j, j ≤ 30 → xseg kd0 sh0 rt0 bd0 un0 (inW wX) PR0 MT0 CT9 0 mdX [] pXr 1000000 3 (stX3 j [f8 448 4 0 j]) = true → ∀ f, 1000000 ≤ f → ∀ (L : List AV) (M : Mem), SpOK kd0 (stX3 j []) L M → GM kd0 sh0 rt0 bd0 (inW wX) Inv0 M0 M → rdI M 448 4 ≤ (j : Int) → OKo (runF (runM k') d ct f 3 Ev 466 0 L [] M) (EnP kd0 sh0 rt0 bd0 Inv0 Ev ctX M0) := by
    intro j hj hx f hf L M hQ hM hc
    have hb := bdAt_ok bCnt hM.1
    exact xseg_ok (C := 1000000) (F := 0) hu0 hang_0 hC9 hmC hx (fun q q1 => by cases q1) hP f hf L M ⟨hQ.1, prFa_app (l := [fLen]) hQ.2.1 (prFa_1 (c := 448) (i := 4) (by decide) hb.1 hc), fun q hq => by cases hq⟩ hM
  have key : ∀ m j, j + m = 30 → ∀ f, fu 2000000 2000000 m ≤ f → ∀ (L : List AV) (M : Mem), SpOK kd0 (stX3 j []) L M → GM kd0 sh0 rt0 bd0 (inW wX) Inv0 M0 M → OKo (runF (runM k') d ct f 3 Ev 466 0 L [] M) (EnP kd0 sh0 rt0 bd0 Inv0 Ev ctX M0) := by
    intro m
    induction m with
    | zero =>
      intro j hj f hf L M hQ hM
      rw [fu_0] at hf
      have e : j = 30 := by omega
      subst e
      exact stop 30 (Nat.le_refl _) chX30 f (Nat.le_trans (nle rfl) hf) L M hQ hM (bdAt_ok bCnt hM.1).2
    | succ m ih =>
      intro j hj f hf L M hQ hM
      have hj30 : j < 30 := by omega
      have hj31 : j + 1 + m = 30 := by omega
      rw [fu_s] at hf
      have hZ := fu_b 2000000 2000000 m
      generalize fu 2000000 2000000 m = Z at ih hf hZ
      obtain ⟨g1, g2⟩ := band (a := xseg kd0 sh0 rt0 bd0 un0 (inW wX) PR0 MT0 CT9 0 mdX [] pXr 1000000 3 (stX3 j [f8 448 4 0 j])) (b := allL relL (fun q => xseg kd0 sh0 rt0 bd0 un0 (inW wX) PR0 MT0 (ctL clX) 6 mdX [(3, [stX3 (j + 1) []])] pXr 1000000 3 (stX3 j (f8 448 4 ((j : Int) + 1) 30 :: relF j q)))) (allN_ok chX_all j hj30)
      by_cases hc : rdI M 448 4 ≤ (j : Int)
      · exact stop j (Nat.le_of_lt hj30) g1 f (fue3 hf (nle rfl)) L M hQ hM hc
      · have hb := bdAt_ok bCnt hM.1
        obtain ⟨q, hq, hqf⟩ := relF_of (hM.2.1.2.1.2.1 j hj30 (Int.not_le.mp hc))
        refine xseg_ok (C := 1000000) (F := Z) hu0 hang_0 hCX hmC (allL_ok g2 q hq) (fun w w1 p w2 => ?_) hP f (fue4 hf (nle rfl)) L M ⟨hQ.1, prFa_app (l := [fLen]) hQ.2.1 (prFa_app (l := [f8 448 4 ((j : Int) + 1) 30]) (prFa_1 (c := 448) (i := 4) (by decide) (ile1 hc) hb.2) hqf), fun q hq => by cases hq⟩ hM
        obtain rfl := List.mem_singleton.mp w1
        obtain rfl := List.mem_singleton.mp w2
        exact fun f' hf' L' M' h9 h8 => ih (j + 1) hj31 f' hf' L' M' h9 h8
  have hfu : fu 2000000 2000000 30 ≤ 62000000 := Nat.le_of_ble_eq_true (by decide +kernel)
  have s0 := xseg_ok (C := 1000000) (F := 62000000) hu0 hang_0 (csL (b := 110) (l := clX0) (Wp := inW wX) (M0 := M0) (D := 4) (k := k') hang_0 (ctL_ok (And.intro (CK_up h1 (by omega)) (And.intro h2 (And.intro h3 trivial)))) (by omega)) hmC chX0 (fun q q1 p q2 => by
    obtain rfl := List.mem_singleton.mp q1
    obtain rfl := List.mem_singleton.mp q2
    exact fun f hf L M h9 h8 => key 30 0 (by omega) f (Nat.le_trans hfu hf) L M h9 h8) (P := EnP kd0 sh0 rt0 bd0 Inv0 Ev ctX M0) (fun r r1 r2 r3 q => ⟨r1, r2, r3.1, r3.2.1, r3.2.2, by obtain ⟨p, hp, hp2⟩ := q; exact ⟨p, by rw [List.mem_singleton.mp hp]; exact List.mem_cons_self, hp2⟩⟩)
  exact fun f hf => s0 f (Nat.le_trans (nle rfl) hf)
