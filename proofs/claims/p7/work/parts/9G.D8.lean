/-! by hand: whatever the echo; the season begins -/
theorem ctr_12 {call : Call} {Ev : Env9} {Inv : Mem → Prop} {y : Nat} {need : List Fct} {sums : List Sct} {W : Wrg} {posts : List Pst} (h : ∀ e : Nat, e < 12 → CtrOK kd0 sh0 rt0 bd0 Inv Ev call y ([(1, 452, 0), (0, (e : Int), (e : Int))], need, sums, W, posts)) : CtrOK kd0 sh0 rt0 bd0 Inv Ev call y ([(1, 452, 0), (0, 0, 11)], need, sums, W, posts) := by
  intro vs M h1 h2 h3 hT hI
  cases vs with
  | nil => exact h1.elim
  | cons v vs =>
    cases vs with
    | nil => exact h1.2.elim
    | cons u vs =>
      obtain ⟨x, e2, x1, x2, x3⟩ := h1.2.1
      have x2 : (0 : Int) ≤ sg x := x2
      have x3 : sg x ≤ 11 := x3
      exact h (sg x).toNat (by omega) (v :: u :: vs) M ⟨h1.1, ⟨x, e2, x1, by show (((sg x).toNat : Nat) : Int) ≤ sg x; omega, by show sg x ≤ (((sg x).toNat : Nat) : Int); omega⟩, h1.2.2⟩ h2 h3 hT hI
/-- calls by what is promised -/
theorem csL {Inv : Mem → Prop} {PR Wp : Nat → Int → Bool} {M0 : Mem} {Ev : Env9} (hI : Hang kd0 PR Inv) {b : Nat} {l : List (Nat × Ctr)} (hl : ∀ y, ∀ ct ∈ ctL l y, ∀ k, b ≤ k → CtrOK kd0 sh0 rt0 bd0 Inv Ev (runM k) y ct) {D k : Nat} (hk : b + D ≤ k) : CS kd0 sh0 rt0 bd0 Wp Inv M0 Ev (runM k) (xM kd0 sh0 rt0 bd0 un0 Wp PR MT0 (ctL l) D) := by
  have h := xM_ok (Wp := Wp) (M0 := M0) (Ev := Ev) hu0 hI hR9 hMT9 (CT := ctL l) (b := b) hl D (k - D) (by omega)
  rw [show k - D + D = k by omega] at h
  exact h
theorem hE_all {Ev : Env9} {e : Nat} (he : e < 12) : CK Ev 3 (200, ctE e) := ct_E hR9 hMT9 (mo_X11_contractEnds rfl _) he
noncomputable def ctMay (e : Nat) : Ctr := ([(1, 452, 0), (0, (e : Int), (e : Int))], ct_197.2.1, ct_197.2.2.1, ct_197.2.2.2.1, ct_197.2.2.2.2)
noncomputable def chMay1 (e : Nat) : Bool := xseg kd0 sh0 rt0 bd0 un0 (inW (ctMay e).2.2.2.1) PR0 MT0 (ctL [(200, ctE e)]) 8 (3, nb_X11_mayDesert, []) [] (ctMay e).2.2.2.2 1000000 0 (spI 3 (ctMay e).1, (ctMay e).2.1, (ctMay e).2.2.1)
theorem chMay : allN 12 chMay1 = true := by decide +kernel
theorem hh_197 {Ev : Env9} : CK Ev 40 (212, ct_197) := by
  intro k hk
  obtain ⟨k', rfl⟩ : ∃ k', k = k' + 1 := ⟨k - 1, by omega⟩
  exact ctr_12 (fun e he => ctr_seg (C := 1000000) (k := k') (ct := ctMay e) (md := (3, nb_X11_mayDesert, [])) hu0 hang_0 hR9 (mo_X11_mayDesert rfl _) (fun M0 => csL (b := 3) (l := [(200, ctE e)]) hang_0 (ctL_ok (And.intro (hE_all he) trivial)) (by omega)) (Nat.le_of_ble_eq_true rfl) (allN_ok chMay e he) (by decide))
noncomputable def ctDis (e : Nat) : Ctr := ([(1, 452, 0), (0, (e : Int), (e : Int))], ct_228.2.1, ct_228.2.2.1, ct_228.2.2.2.1, ct_228.2.2.2.2)
noncomputable def chDis1 (e : Nat) : Bool := xseg kd0 sh0 rt0 bd0 un0 (inW (ctDis e).2.2.2.1) PR0 MT0 (ctL [(200, ctE e)]) 8 (2, nb_X11_dismissNow, []) [] (ctDis e).2.2.2.2 1000000 0 (spI 2 (ctDis e).1, (ctDis e).2.1, (ctDis e).2.2.1)
theorem chDis : allN 12 chDis1 = true := by decide +kernel
theorem hh_228 {Ev : Env9} : CK Ev 40 (220, ct_228) := by
  intro k hk
  obtain ⟨k', rfl⟩ : ∃ k', k = k' + 1 := ⟨k - 1, by omega⟩
  exact ctr_12 (fun e he => ctr_seg (C := 1000000) (k := k') (ct := ctDis e) (md := (2, nb_X11_dismissNow, [])) hu0 hang_0 hR9 (mo_X11_dismissNow rfl _) (fun M0 => csL (b := 3) (l := [(200, ctE e)]) hang_0 (ctL_ok (And.intro (hE_all he) trivial)) (by omega)) (Nat.le_of_ble_eq_true rfl) (allN_ok chDis e he) (by decide))
/-- stations one behind another, nothing else between -/
theorem famS {Wp PR : Nat → Int → Bool} {Inv : Mem → Prop} {M0 : Mem} {Ev : Env9} {call : Call} (hI : Hang kd0 PR Inv) {CT : Nat → Nat → List Ctr} {D : Nat} {md : MDT} {d : Nat} {ct : TrT Blk d} (hC : ∀ c, CS kd0 sh0 rt0 bd0 Wp Inv M0 Ev call (xM kd0 sh0 rt0 bd0 un0 Wp PR MT0 (CT c) D)) (hmd : MdC md d ct) {N C F b bx : Nat} {S : Nat → SPt} {px : List SPt} {P : Res → Prop}
    (hseg : ∀ c, c < N → xseg kd0 sh0 rt0 bd0 un0 Wp PR MT0 (CT c) D md [(b, [S (c + 1)]), (bx, px)] [] C b (S c) = true) (hlast : xseg kd0 sh0 rt0 bd0 un0 Wp PR MT0 (CT N) D md [(bx, px)] [] C b (S N) = true)
    (hx : ∀ p ∈ px, StK kd0 sh0 rt0 bd0 Wp Inv M0 Ev call d ct F bx (SpOK kd0 p) P) : ∀ m c, c + m = N → StK kd0 sh0 rt0 bd0 Wp Inv M0 Ev call d ct ((m + 1) * C + F) b (SpOK kd0 (S c)) P := by
  intro m
  induction m with
  | zero =>
    intro c hc
    have e : c = N := by omega
    subst e
    rw [Nat.zero_add, Nat.one_mul]
    exact xseg_ok hu0 hI (hC c) hmd hlast (fun q q1 p q2 => by obtain rfl := List.mem_singleton.mp q1; exact hx p q2) (fun r _ _ _ q => by obtain ⟨p, hp, _⟩ := q; cases hp)
  | succ m ih =>
    intro c hc
    have e : (m + 1 + 1) * C + F = C + ((m + 1) * C + F) := by rw [Nat.succ_mul (m + 1) C]; omega
    rw [e]
    refine xseg_ok hu0 hI (hC c) hmd (hseg c (by omega)) (fun q q1 p q2 => ?_) (fun r _ _ _ q => by obtain ⟨p, hp, _⟩ := q; cases hp)
    rcases List.mem_cons.mp q1 with e1 | q1
    · subst e1
      obtain rfl := List.mem_singleton.mp q2
      exact ih (c + 1) (by omega)
    · obtain rfl := List.mem_singleton.mp q1
      exact fun f hf => hx p q2 f (by omega)
noncomputable def stB (c : Nat) : SPt := ([some (1, 452, 0), some (0, (c : Int), (c : Int)), none], [], [])
noncomputable def stX : SPt := ([some (1, 452, 0), none, none], [], [])
noncomputable def ctBl (c : Nat) : List (Nat × Ctr) := Bool.rec [] [(200, ctE c)] (Nat.blt c 12)
noncomputable def ctB : Nat → Nat → List Ctr := fun c => ctL (ctBl c)
theorem chB0 : xseg kd0 sh0 rt0 bd0 un0 (inW ct_194.2.2.2.1) PR0 MT0 (ctL []) 4 md_194 [(1, [stB 0])] [] 1000000 0 (spI md_194.1 ct_194.1, ct_194.2.1, ct_194.2.2.1) = true := by decide +kernel
theorem chB1 : allN 12 (fun c => xseg kd0 sh0 rt0 bd0 un0 (inW ct_194.2.2.2.1) PR0 MT0 (ctB c) 4 md_194 [(1, [stB (c + 1)]), (5, [stX])] [] 1000000 1 (stB c)) = true := by decide +kernel
theorem chB2 : xseg kd0 sh0 rt0 bd0 un0 (inW ct_194.2.2.2.1) PR0 MT0 (ctB 12) 4 md_194 [(5, [stX])] [] 1000000 1 (stB 12) = true := by decide +kernel
theorem chB3 : xseg kd0 sh0 rt0 bd0 un0 (inW ct_194.2.2.2.1) PR0 MT0 (ctL [(208, ct_190)]) 4 md_194 [] ct_194.2.2.2.2 1000000 5 stX = true := by decide +kernel
theorem hb_begins {Ev : Env9} (hf : CK Ev 60 (208, ct_190)) : CK Ev 80 (209, ct_194) := by
  intro k hk
  obtain ⟨k', rfl⟩ : ∃ k', k = k' + 1 := ⟨k - 1, by omega⟩
  have hmd : MDOK bo9 209 md_194 := mo_X11_beginsSeason rfl _
  refine ctr_st hR9 hmd (Nat.le_of_ble_eq_true rfl) (fun d c hmC M0 hI0 _ => ?_)
  have sX : StK kd0 sh0 rt0 bd0 (inW ct_194.2.2.2.1) Inv0 M0 Ev (runM k') d c 1000000 5 (SpOK kd0 stX) (EnP kd0 sh0 rt0 bd0 Inv0 Ev ct_194 M0) :=
    xseg_ok (C := 1000000) (F := 0) hu0 hang_0 (csL hang_0 (ctL_ok (b := 60) (l := [(208, ct_190)]) (And.intro hf trivial)) (by omega)) hmC chB3 (fun q q1 => by cases q1) (fun r r1 r2 r3 q => ⟨r1, r2, r3.1, r3.2.1, r3.2.2, q⟩)
  have hC : ∀ c', CS kd0 sh0 rt0 bd0 (inW ct_194.2.2.2.1) Inv0 M0 Ev (runM k') (xM kd0 sh0 rt0 bd0 un0 (inW ct_194.2.2.2.1) PR0 MT0 (ctB c') 4) := by
    intro c'
    refine csL hang_0 (b := 3) (l := ctBl c') (ctL_ok ?_) (by omega)
    unfold ctBl
    cases h9 : Nat.blt c' 12 with
    | false => trivial
    | true => exact And.intro (hE_all (Nat.le_of_ble_eq_true h9)) trivial
  have s0 := famS (N := 12) (C := 1000000) (F := 1000000) (b := 1) (bx := 5) (S := stB) (px := [stX]) hang_0 hC hmC (fun c hc => allN_ok chB1 c hc) chB2 (fun p hp => by obtain rfl := List.mem_singleton.mp hp; exact sX) 12 0 (by omega)
  have s1 := xseg_ok (C := 1000000) hu0 hang_0 (csL (Wp := inW ct_194.2.2.2.1) (M0 := M0) (Ev := Ev) (PR := PR0) hang_0 (ctL_ok (b := 0) (l := []) trivial) (D := 4) (k := k') (by omega)) hmC chB0 (fun q q1 p q2 => by obtain rfl := List.mem_singleton.mp q1; obtain rfl := List.mem_singleton.mp q2; exact s0) (P := EnP kd0 sh0 rt0 bd0 Inv0 Ev ct_194 M0) (fun r _ _ _ q => by obtain ⟨p, hp, _⟩ := q; cases hp)
  exact fun f hf => s1 f (by omega)
theorem hh_194 {Ev : Env9} (hf : CK Ev 60 (208, ct_190)) : CK Ev 80 (209, ct_194) := hb_begins hf
