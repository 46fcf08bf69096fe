/-! the fair: the valley that an echo applies to next; how it starts -/
noncomputable def fA (j : Nat) (lo hi : Int) : Fct := ((.inl 461, (0, 0, (j : Int))), lo, hi)
noncomputable def pNV (e : Nat) : List Pst := ((0, 0), (0, -1, -1), [], []) :: Nat.rec [] (fun b ih => ((0, 0), (0, (b : Int), (b : Int)), [fA (12 * b + e) 0 0], []) :: ih) 8
noncomputable def ctNV (e : Nat) : Ctr := ([(1, 452, 0), (0, (e : Int), (e : Int))], [], [], [], pNV e)
noncomputable def mdNV : MDT := (4, nb_X11_nextValley, [])
/-- at the loop: the valley c, the best so far (one more, 0: none) -/
noncomputable def stNV (e c b : Nat) : SPt := ([some (1, 452, 0), some (0, (e : Int), (e : Int)), some (0, (b : Int) - 1, (b : Int) - 1), some (0, (c : Int), (c : Int))], Nat.rec [] (fun j _ => [fA (12 * j + e) 0 0]) b, [])
noncomputable def clNV : List (Nat × Ctr) := [(196, ct_178), (197, ct_179)]
noncomputable def chN1 (e c b : Nat) : Bool := xseg kd0 sh0 rt0 bd0 un0 (inW []) PR0 MT0 (ctL clNV) 2 mdNV [(1, [stNV e (c + 1) b, stNV e (c + 1) (c + 1)])] (pNV e) 1000 1 (stNV e c b)
noncomputable def chN2 (e : Nat) : Bool := allN 8 (fun c => allN (c + 1) (fun b => chN1 e c b))
noncomputable def chN3 (e : Nat) : Bool := allN 9 (fun b => xseg kd0 sh0 rt0 bd0 un0 (inW []) PR0 MT0 (ctL clNV) 2 mdNV [] (pNV e) 1000 1 (stNV e 8 b))
noncomputable def chN4 (e : Nat) : Bool := xseg kd0 sh0 rt0 bd0 un0 (inW []) PR0 MT0 (ctL clNV) 2 mdNV [(1, [stNV e 0 0])] [] 1000 0 (spI 4 (ctNV e).1, [], [])
theorem chN : allN 12 (fun e => Bool.rec false (Bool.rec false (chN4 e) (chN3 e)) (chN2 e)) = true := by decide +kernel
theorem nv_ok {Ev : Env9} (h1 : CK Ev 20 (196, ct_178)) (h2 : CK Ev 20 (197, ct_179)) {e : Nat} (he : e < 12) : CK Ev 30 (203, ctNV e) := by
  intro k hk
  obtain ⟨k', rfl⟩ : ∃ k', k = k' + 1 := ⟨k - 1, by omega⟩
  have hch := allN_ok chN e he
  obtain ⟨c1, hch⟩ := band (a := chN2 e) (b := Bool.rec false (chN4 e) (chN3 e)) hch
  obtain ⟨c2, c3⟩ := band (a := chN3 e) (b := chN4 e) hch
  have hl : ylen (yflat (yargs (ctNV e).1 []).2) ≤ mdNV.1 := by
    show ylen (yflat (yargs [(1, 452, 0), (0, (e : Int), (e : Int))] []).2) ≤ 4
    exact Nat.le_of_ble_eq_true rfl
  refine ctr_st hR9 (md := mdNV) (show MDOK bo9 203 mdNV from mo_X11_nextValley rfl _) hl (fun d ct hmC M0 _ _ => ?_)
  have hC : CS kd0 sh0 rt0 bd0 (inW []) Inv0 M0 Ev (runM k') (xM kd0 sh0 rt0 bd0 un0 (inW []) PR0 MT0 (ctL clNV) 2) := csL hang_0 (ctL_ok (b := 20) (l := clNV) (And.intro h1 (And.intro h2 trivial))) (by omega)
  have hP : ∀ r : Res, r.2.1 = Ev → r.2.2.2.2.2.2.1 = 466 → GM kd0 sh0 rt0 bd0 (inW []) Inv0 M0 r.2.2.2.2.2.1 → (∃ q ∈ pNV e, pOK kd0 q r) → EnP kd0 sh0 rt0 bd0 Inv0 Ev (ctNV e) M0 r := fun r r1 r2 r3 q => ⟨r1, r2, r3.1, r3.2.1, r3.2.2, q⟩
  have key : ∀ m c, c + m = 8 → ∀ b, b ≤ c → StK kd0 sh0 rt0 bd0 (inW []) Inv0 M0 Ev (runM k') d ct ((m + 1) * 1000) 1 (SpOK kd0 (stNV e c b)) (EnP kd0 sh0 rt0 bd0 Inv0 Ev (ctNV e) M0) := by
    intro m
    induction m with
    | zero =>
      intro c hc b hb
      have e8 : c = 8 := by omega
      subst e8
      exact xseg_ok (C := 1000) (F := 0) hu0 hang_0 hC hmC (allN_ok c2 b (by omega)) (fun q q1 => by cases q1) hP
    | succ m ih =>
      intro c hc b hb
      have h9 := xseg_ok (C := 1000) (F := (m + 1) * 1000) hu0 hang_0 hC hmC (allN_ok (allN_ok c1 c (by omega)) b (by omega)) (fun q q1 p q2 => by
        obtain rfl := List.mem_singleton.mp q1
        rcases List.mem_cons.mp q2 with e1 | q2
        · rw [e1]; exact ih (c + 1) (by omega) b (by omega)
        · rw [List.mem_singleton.mp q2]; exact ih (c + 1) (by omega) (c + 1) (by omega)) hP
      exact fun f hf => h9 f (by omega)
  have h9 := xseg_ok (C := 1000) (F := 9000) hu0 hang_0 hC hmC c3 (fun q q1 p q2 => by
    obtain rfl := List.mem_singleton.mp q1
    obtain rfl := List.mem_singleton.mp q2
    exact key 8 0 (by omega) 0 (by omega)) (P := EnP kd0 sh0 rt0 bd0 Inv0 Ev (ctNV e) M0) (fun r _ _ _ q => by obtain ⟨p, hp, _⟩ := q; cases hp)
  exact fun f hf => h9 f (by omega)
/-- the fair starts -/
noncomputable def zK : List Fct := Nat.rec [] (fun v ih => ((.inl 460, (0, 0, ((v : Nat) : Int))), 0, 0) :: ih) 8
noncomputable def wSF : Wrg := [(13, 12, 13), (36, 0, 15), (38, 0, 7), (39, 0, 95)]
noncomputable def ctSF : Ctr := ([(1, 452, 0)], [], [], wSF, [((1, 0), (1, 0, 0), fM 12 0 0 :: fM 13 0 12 :: zK, [])])
noncomputable def mdSF : MDT := (2, nb_X11_startsFair, [])
noncomputable def stSF (c : Nat) : SPt := ([some (1, 452, 0), some (0, (c : Int), (c : Int))], fM 12 0 0 :: fM 13 0 c :: zK, [])
noncomputable def stSX : SPt := ([some (1, 452, 0), none], fM 12 0 0 :: fM 13 0 12 :: zK, [])
theorem chS0 : xseg kd0 sh0 rt0 bd0 un0 (inW wSF) PR0 MT0 CT9 0 mdSF [(7, [stSF 0])] [] 1000000 0 (spI 2 ctSF.1, [], []) = true := by decide +kernel
theorem chS1 : allN 12 (fun c => xseg kd0 sh0 rt0 bd0 un0 (inW wSF) PR0 MT0 CT9 3 mdSF [(7, [stSF (c + 1)]), (11, [stSX])] [] 1000000 7 (stSF c)) = true := by decide +kernel
theorem chS2 : xseg kd0 sh0 rt0 bd0 un0 (inW wSF) PR0 MT0 CT9 3 mdSF [(11, [stSX])] [] 1000000 7 (stSF 12) = true := by decide +kernel
theorem chS3 : xseg kd0 sh0 rt0 bd0 un0 (inW wSF) PR0 MT0 CT9 0 mdSF [] ctSF.2.2.2.2 1000000 11 stSX = true := by decide +kernel
theorem sf_ok {Ev : Env9} : CK Ev 10 (206, ctSF) := by
  intro k hk
  obtain ⟨k', rfl⟩ : ∃ k', k = k' + 1 := ⟨k - 1, by omega⟩
  refine ctr_st hR9 (md := mdSF) (show MDOK bo9 206 mdSF from mo_X11_startsFair rfl _) (Nat.le_of_ble_eq_true rfl) (fun d ct hmC M0 _ _ => ?_)
  have hC : ∀ D, D ≤ 3 → CS kd0 sh0 rt0 bd0 (inW wSF) Inv0 M0 Ev (runM k') (xM kd0 sh0 rt0 bd0 un0 (inW wSF) PR0 MT0 CT9 D) := fun D hD => cs9 hang_0 hR9 hMT9 (by omega)
  have sX : StK kd0 sh0 rt0 bd0 (inW wSF) Inv0 M0 Ev (runM k') d ct 1000000 11 (SpOK kd0 stSX) (EnP kd0 sh0 rt0 bd0 Inv0 Ev ctSF M0) :=
    xseg_ok (C := 1000000) (F := 0) hu0 hang_0 (hC 0 (by omega)) hmC chS3 (fun q q1 => by cases q1) (fun r r1 r2 r3 q => ⟨r1, r2, r3.1, r3.2.1, r3.2.2, q⟩)
  have s0 := famS (N := 12) (C := 1000000) (F := 1000000) (b := 7) (bx := 11) (S := stSF) (px := [stSX]) (CT := fun _ => CT9) hang_0 (fun _ => hC 3 (by omega)) hmC (fun c hc => allN_ok chS1 c hc) chS2 (fun p hp => by obtain rfl := List.mem_singleton.mp hp; exact sX) 12 0 (by omega)
  have s1 := xseg_ok (C := 1000000) hu0 hang_0 (hC 0 (by omega)) hmC chS0 (fun q q1 p q2 => by obtain rfl := List.mem_singleton.mp q1; obtain rfl := List.mem_singleton.mp q2; exact s0) (P := EnP kd0 sh0 rt0 bd0 Inv0 Ev ctSF M0) (fun r _ _ _ q => by obtain ⟨p, hp, _⟩ := q; cases hp)
  exact fun f hf => s1 f (by omega)
