/-! the line of fog -/
noncomputable def sFg (c : Nat) : SPt := ([some (1, 452, 0), none], [k31 4 c c, fM 20 0 0, fM 17 0 900], [])
noncomputable def sFe : SPt := ([some (1, 452, 0), none], [fM 20 1 4, fM 17 0 900], [])
noncomputable def pFg : List Pst := [((1, 0), (1, 0, 0), [fM 17 0 900, fM 20 0 0, k31 4 1 12], []), ((1, 0), (1, 0, 0), [fM 17 0 901, fM 20 1 4], [])]
noncomputable def wFg : Wrg := [(13, 17, 21), (31, 4, 4), (31, 11, 22)]
noncomputable def ctFg : Ctr := ([(1, 452, 0)], [fM 17 0 900, fM 20 0 0], [], wFg, pFg)
noncomputable def mdFg : MDT := (2, nb_X11_fogLine, [])
noncomputable def chFg0 (c : Nat) : Bool := xseg kd0 sh0 rt0 bd0 un0 (inW wFg) PR0 MT0 (ctL tl_fog) 4 mdFg [(1, [sFg c, sFe])] [] 1000000 0 (spI 2 ctFg.1, [k31 4 c c, fM 17 0 900, fM 20 0 0], [])
noncomputable def chFg1 (c : Nat) : Bool := xseg kd0 sh0 rt0 bd0 un0 (inW wFg) PR0 MT0 (ctL tl_fog) 8 mdFg (yif (Nat.blt c 12) [(1, [sFg (c + 1)])]) pFg 1000000 1 (sFg c)
theorem chFgA : allN 13 chFg0 = true := by decide +kernel
theorem chFgB : allN 13 chFg1 = true := by decide +kernel
theorem chFge : xseg kd0 sh0 rt0 bd0 un0 (inW wFg) PR0 MT0 (ctL tl_fog) 8 mdFg [] pFg 1000000 1 sFe = true := by decide +kernel
theorem bFog : bdAt 453 4 0 12 = true := by decide +kernel
theorem fog_ok {Ev : Env9} (hl : ∀ y, ∀ ct ∈ ctL tl_fog y, ∀ k, 40 ≤ k → CtrOK kd0 sh0 rt0 bd0 Inv0 Ev (runM k) y ct) : CK Ev 60 (247, ctFg) := by
  intro k hk
  obtain ⟨k', rfl⟩ : ∃ k', k = k' + 1 := ⟨k - 1, by omega⟩
  refine ctr_st hR9 (show MDOK bo9 247 mdFg from mo_X11_fogLine rfl _) (Nat.le_of_ble_eq_true rfl) (fun d ct hmC M0 _ _ f hf L M hQ hM => ?_)
  have hC : ∀ D, D ≤ 8 → CS kd0 sh0 rt0 bd0 (inW wFg) Inv0 M0 Ev (runM k') (xM kd0 sh0 rt0 bd0 un0 (inW wFg) PR0 MT0 (ctL tl_fog) D) := fun D hD => csL (b := 40) hang_0 hl (by omega)
  have hP : ∀ r : Res, r.2.1 = Ev → r.2.2.2.2.2.2.1 = 466 → GM kd0 sh0 rt0 bd0 (inW wFg) Inv0 M0 r.2.2.2.2.2.1 → (∃ q ∈ pFg, pOK kd0 q r) → EnP kd0 sh0 rt0 bd0 Inv0 Ev ctFg M0 r := fun r r1 r2 r3 q => ⟨r1, r2, r3.1, r3.2.1, r3.2.2, q⟩
  have key : ∀ m c, c + m = 12 → StK kd0 sh0 rt0 bd0 (inW wFg) Inv0 M0 Ev (runM k') d ct (fu 1000000 1000000 m) 1 (SpOK kd0 (sFg c)) (EnP kd0 sh0 rt0 bd0 Inv0 Ev ctFg M0) := by
    intro m
    induction m with
    | zero =>
      intro c hc
      have e : c = 12 := by omega
      subst e
      have h9 := xseg_ok (C := 1000000) (F := 0) hu0 hang_0 (hC 8 (by omega)) hmC (allN_ok chFgB 12 (by omega)) (fun q q1 => by obtain ⟨h, _⟩ := yif_mem q1; cases h) hP
      exact fun f hf => h9 f (by rw [fu_0] at hf; exact hf)
    | succ m ih =>
      intro c hc
      have h9 := xseg_ok (C := 1000000) (F := fu 1000000 1000000 m) hu0 hang_0 (hC 8 (by omega)) hmC (allN_ok chFgB c (by omega)) (fun q q1 p q2 => by
        obtain ⟨_, q1⟩ := yif_mem q1
        obtain rfl := List.mem_singleton.mp q1
        obtain rfl := List.mem_singleton.mp q2
        exact ih (c + 1) (by omega)) hP
      rw [fu_s, Nat.add_comm]
      exact h9
  have ke := xseg_ok (C := 1000000) (F := 0) hu0 hang_0 (hC 8 (by omega)) hmC chFge (fun q q1 => by cases q1) hP
  have hb := bdAt_ok bFog hM.1
  have hfu : ∀ m, m ≤ 12 → fu 1000000 1000000 m ≤ 13000000 := fun m hm => by
    have h9 : allN 13 (fun m => Nat.ble (fu 1000000 1000000 m) 13000000) = true := by decide +kernel
    exact Nat.le_of_ble_eq_true (allN_ok h9 m (by omega))
  obtain ⟨c, hc, hce⟩ : ∃ c : Nat, c < 13 ∧ rdI M 453 4 = (c : Int) := ⟨(rdI M 453 4).toNat, by omega, by omega⟩
  refine xseg_ok (C := 1000000) (F := 13000000) hu0 hang_0 (hC 4 (by omega)) hmC (allN_ok chFgA c hc) (fun q q1 p q2 => ?_) (fun r _ _ _ q => by obtain ⟨p, hp, _⟩ := q; cases hp) f (by omega) L M ⟨hQ.1, prFa_app (l := [k31 4 c c]) (prFa_1 (c := 453) (i := 4) (by omega) (by omega) (by omega)) hQ.2.1, fun q hq => by cases hq⟩ hM
  obtain rfl := List.mem_singleton.mp q1
  rcases List.mem_cons.mp q2 with e | q2
  · rw [e]; exact fun f hf => key (12 - c) c (by omega) f (Nat.le_trans (hfu (12 - c) (by omega)) hf)
  · rw [List.mem_singleton.mp q2]; exact fun f hf => ke f (by omega)
