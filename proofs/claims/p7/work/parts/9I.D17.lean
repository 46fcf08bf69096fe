/-! the reference tells its contracts -/
noncomputable def mdFm : MDT := (3, nb_X11_formatContracts, [])
noncomputable def wFm : Wrg := [(13, 6, 6), (13, 27, 27), (42, 0, 255)]
noncomputable def ctFm : Ctr := ([(1, 452, 0)], [], [], wFm, [anyI []])
noncomputable def sF1 (c : Nat) : SPt := ([some (1, 452, 0), some (0, (c : Int), (c : Int)), none], [fM 27 0 ((29 * c : Nat) : Int)], [])
noncomputable def sF5 (c k : Nat) : SPt := ([some (1, 452, 0), some (0, (c : Int), (c : Int)), some (0, (k : Int), (k : Int))], [fM 27 0 ((29 * c + 8 + 7 * k : Nat) : Int)], [])
noncomputable def chFm1 (c : Nat) : Bool := xseg kd0 sh0 rt0 bd0 un0 (inW wFm) PR0 MT0 CT9 6 mdFm (yif (Nat.blt c 8) [(5, [sF5 c 0])]) [anyI []] 1000000 1 (sF1 c)
noncomputable def chFm5 (c k : Nat) : Bool := xseg kd0 sh0 rt0 bd0 un0 (inW wFm) PR0 MT0 CT9 6 mdFm ((1, [sF1 (c + 1)]) :: yif (Nat.blt k 3) [(5, [sF5 c (k + 1)])]) [] 1000000 5 (sF5 c k)
theorem chFmA : allN 9 chFm1 = true := by decide +kernel
theorem chFmB : allN 8 (fun c => allN 4 (chFm5 c)) = true := by decide +kernel
theorem chFm0 : xseg kd0 sh0 rt0 bd0 un0 (inW wFm) PR0 MT0 CT9 0 mdFm [(1, [sF1 0])] [] 1000000 0 (spI 3 ctFm.1, [], []) = true := by decide +kernel
theorem form_ok {Ev : Env9} : CK Ev 20 (333, ctFm) := by
  intro k hk
  obtain ⟨k', rfl⟩ : ∃ k', k = k' + 1 := ⟨k - 1, by omega⟩
  refine ctr_st hR9 (md := mdFm) (show MDOK bo9 333 mdFm from mo_X11_formatContracts rfl _) (Nat.le_of_ble_eq_true rfl) (fun d ct hmC M0 hI0 _ => ?_)
  have hC : ∀ D, D ≤ 6 → CS kd0 sh0 rt0 bd0 (inW wFm) Inv0 M0 Ev (runM k') (xM kd0 sh0 rt0 bd0 un0 (inW wFm) PR0 MT0 CT9 D) := fun D hD => cs9 hang_0 hR9 hMT9 (by omega)
  have hP : ∀ r : Res, r.2.1 = Ev → r.2.2.2.2.2.2.1 = 466 → GM kd0 sh0 rt0 bd0 (inW wFm) Inv0 M0 r.2.2.2.2.2.1 → (∃ q ∈ [anyI []], pOK kd0 q r) → EnP kd0 sh0 rt0 bd0 Inv0 Ev ctFm M0 r := fun r r1 r2 r3 q => ⟨r1, r2, r3.1, r3.2.1, r3.2.2, q⟩
  have key : ∀ m c, c + m = 8 → StK kd0 sh0 rt0 bd0 (inW wFm) Inv0 M0 Ev (runM k') d ct ((m + 1) * 6000000) 1 (SpOK kd0 (sF1 c)) (EnP kd0 sh0 rt0 bd0 Inv0 Ev ctFm M0) := by
    intro m
    induction m with
    | zero =>
      intro c hc
      have e8 : c = 8 := by omega
      subst e8
      have h9 := xseg_ok (C := 1000000) (F := 0) hu0 hang_0 (hC 6 (by omega)) hmC (allN_ok chFmA 8 (by omega)) (fun q q1 => by obtain ⟨h, _⟩ := yif_mem q1; cases h) hP
      exact fun f hf => h9 f (by omega)
    | succ m ih =>
      intro c hc
      have e1 : (m + 1 + 1) * 6000000 = (m + 1) * 6000000 + 6000000 := Nat.succ_mul _ _
      have nxt := ih (c + 1) (by omega)
      have in5 : ∀ j k, k + j = 3 → StK kd0 sh0 rt0 bd0 (inW wFm) Inv0 M0 Ev (runM k') d ct ((j + 1) * 1000000 + (m + 1) * 6000000) 5 (SpOK kd0 (sF5 c k)) (EnP kd0 sh0 rt0 bd0 Inv0 Ev ctFm M0) := by
        intro j
        induction j with
        | zero =>
          intro k hk3
          have e3 : k = 3 := by omega
          subst e3
          have h9 := xseg_ok (C := 1000000) (F := (m + 1) * 6000000) hu0 hang_0 (hC 6 (by omega)) hmC (allN_ok (allN_ok chFmB c (by omega)) 3 (by omega)) (fun q q1 p q2 => by
            rcases List.mem_cons.mp q1 with e | e
            · subst e; obtain rfl := List.mem_singleton.mp q2; exact nxt
            · obtain ⟨h, _⟩ := yif_mem e; cases h) (P := EnP kd0 sh0 rt0 bd0 Inv0 Ev ctFm M0) (fun r _ _ _ q => by obtain ⟨p, hp, _⟩ := q; cases hp)
          exact fun f hf => h9 f (by omega)
        | succ j ihj =>
          intro k hk3
          have e2 : (j + 1 + 1) * 1000000 = (j + 1) * 1000000 + 1000000 := Nat.succ_mul _ _
          have h9 := xseg_ok (C := 1000000) (F := (j + 1) * 1000000 + (m + 1) * 6000000) hu0 hang_0 (hC 6 (by omega)) hmC (allN_ok (allN_ok chFmB c (by omega)) k (by omega)) (fun q q1 p q2 => by
            rcases List.mem_cons.mp q1 with e | e
            · subst e; obtain rfl := List.mem_singleton.mp q2; exact fun f hf => nxt f (Nat.le_trans (Nat.le_add_left _ _) hf)
            · obtain ⟨h, e⟩ := yif_mem e
              obtain rfl := List.mem_singleton.mp e
              obtain rfl := List.mem_singleton.mp q2
              exact ihj (k + 1) (by omega)) (P := EnP kd0 sh0 rt0 bd0 Inv0 Ev ctFm M0) (fun r _ _ _ q => by obtain ⟨p, hp, _⟩ := q; cases hp)
          exact fun f hf => h9 f (by omega)
      have h9 := xseg_ok (C := 1000000) (F := 4000000 + (m + 1) * 6000000) hu0 hang_0 (hC 6 (by omega)) hmC (allN_ok chFmA c (by omega)) (fun q q1 p q2 => by
        obtain ⟨_, e⟩ := yif_mem q1
        obtain rfl := List.mem_singleton.mp e
        obtain rfl := List.mem_singleton.mp q2
        exact fun f hf => in5 3 0 (by omega) f (by omega)) hP
      exact fun f hf => h9 f (by omega)
  have h9 := xseg_ok (C := 1000000) (F := 54000000) hu0 hang_0 (hC 0 (by omega)) hmC chFm0 (fun q q1 p q2 => by
    obtain rfl := List.mem_singleton.mp q1
    obtain rfl := List.mem_singleton.mp q2
    exact fun f hf => key 8 0 (by omega) f (by omega)) (P := EnP kd0 sh0 rt0 bd0 Inv0 Ev ctFm M0) (fun r _ _ _ q => by obtain ⟨p, hp, _⟩ := q; cases hp)
  exact fun f hf => h9 f (by omega)
