/-! save, undo, restore, load -/
/-- what hangs on no saved row -/
def InvN (M : Mem) : Prop := InvE M ∧ (XCo M ∧ XTo M) ∧ ∀ i : Nat, i < 8 → (i : Int) < rdI M 452 5 → GoodR M 457 (627 * i)
noncomputable def PRS (κ : Nat) (v : Int) : Bool := Bool.rec (PR0 κ v) (Bool.rec (PR0 κ v) false (ieq v 7)) (Nat.beq κ 13)
noncomputable def hgN (PR : Nat → Int → Bool) : Bool := Bool.rec false (allL [0, 1, 2, 3, 4, 5, 6, 7] (fun i => allL [3, 4, 0, 1] (fun j => PR (kd0 457) ((627 * i + j : Nat) : Int)))) (PR (kd0 452) ((5 : Nat) : Int))
theorem hgE_S : hgE PRS = true := by decide +kernel
theorem hgX_S : hgX PRS = true := by decide +kernel
theorem hgN_S : hgN PRS = true := by decide +kernel
theorem hang_N : Hang kd0 PRS InvN := by
  intro M M' h hf
  obtain ⟨g1, g2⟩ := band (a := PRS (kd0 452) ((5 : Nat) : Int)) (b := allL [0, 1, 2, 3, 4, 5, 6, 7] (fun i => allL [3, 4, 0, 1] (fun j => PRS (kd0 457) ((627 * i + j : Nat) : Int)))) hgN_S
  refine ⟨hang_E hgE_S hf h.1, ⟨(hang_X hgX_S hf).1 h.2.1.1, (hang_X hgX_S hf).2 h.2.1.2⟩, fun i hi h9 => ?_⟩
  rw [hf 452 (by omega) 5 g1] at h9
  refine good_fr (by omega) (allL_ok g2 i ?_) hf (h.2.2 i hi h9)
  have : i = 0 ∨ i = 1 ∨ i = 2 ∨ i = 3 ∨ i = 4 ∨ i = 5 ∨ i = 6 ∨ i = 7 := by omega
  rcases this with e | e | e | e | e | e | e | e <;> rw [e] <;> decide
theorem InvN_cp {a a0 b b0 : Nat} {M M' : Mem} (ha : (a, a0) ∈ rows9) (hb : (b, b0) ∈ rows9) (h : CpR a a0 b b0 627 M M') (h1 : 453 ≤ b ∧ b ≤ 456) (hI : InvN M) : InvN M' :=
  ⟨InvE_cp ha hb h hI.1, ⟨(InvX_cp h h1.1 (by omega)).1 hI.2.1.1, (InvX_cp h h1.1 (by omega)).2 hI.2.1.2⟩, fun i hi h9 => good_cp h (by omega) (Or.inl (by omega)) (hI.2.2 i hi (by rw [h.2 452 (by omega) 5 (Or.inl (by omega))] at h9; exact h9))⟩
/-- calls by one promise -/
theorem cs1 {Inv : Mem → Prop} {PR Wp : Nat → Int → Bool} {M0 : Mem} {Ev : Env9} (hI : Hang kd0 PR Inv) {y0 : Nat} {c0 : Ctr} {b : Nat} (h : ∀ k, b ≤ k → CtrOK kd0 sh0 rt0 bd0 Inv Ev (runM k) y0 c0) {D k : Nat} (hk : b + D ≤ k) : CS kd0 sh0 rt0 bd0 Wp Inv M0 Ev (runM k) (xM kd0 sh0 rt0 bd0 un0 Wp PR MT0 (ctL [(y0, c0)]) D) :=
  csL hI (b := b) (fun y ct hm => by
    have hm : ct ∈ (Bool.rec [] [c0] (Nat.beq y0 y) : List Ctr) := hm
    cases hb : Nat.beq y0 y with
    | false => rw [hb] at hm; cases hm
    | true => rw [hb] at hm; rw [List.mem_singleton.mp hm, ← Nat.eq_of_beq_eq_true hb]; exact h) hk
noncomputable def anyI (f : List Fct) : Pst := ((0, 0), (0, -2147483648, 2147483647), f, [])
/-- save -/
noncomputable def ctSave : Ctr := ([(1, 452, 0)], gdR 453 0, [], (13, 6, 7) :: wRow 32 0, [anyI (gdR 454 0)])
theorem chSave : xseg kd0 sh0 rt0 bd0 un0 (inW ctSave.2.2.2.1) PRS MT0 (ctL [(178, ctCp 453 0 454 0)]) 4 (1, nb_X11_save, []) [] ctSave.2.2.2.2 1000 0 (spI 1 ctSave.1, ctSave.2.1, []) = true := by decide +kernel
theorem save_ok {Ev : Env9} : CK Ev 10 (329, ctSave) := by
  intro k hk
  obtain ⟨k', rfl⟩ : ∃ k', k = k' + 1 := ⟨k - 1, by omega⟩
  have h : CtrOK kd0 sh0 rt0 bd0 InvN Ev (runM (k' + 1)) 329 ctSave := ctr_seg (C := 1000) (k := k') (ct := ctSave) (md := (1, nb_X11_save, [])) hu0 hang_N hR9 (mo_X11_save rfl _) (fun M0 => cs1 (b := 1) hang_N (cp_any (by omega) (by omega) ku_454 (by omega) cq_453_454 (fun M M' _ g1 g2 => InvN_cp (by decide) (by decide) g2 (by omega) g1)) (by omega)) (Nat.le_of_ble_eq_true rfl) chSave (by decide)
  refine ctr_lift h (fun M g => ⟨g.1, g.2.1.2, g.2.2⟩) (fun M M' _ _ g3 _ _ g6 => ?_)
  obtain ⟨p, hp, hf⟩ := g6
  obtain rfl := List.mem_singleton.mp hp
  exact ⟨g3.1, ⟨fun _ => good_of hf, g3.2.1⟩, g3.2.2⟩
/-- undo: by how many rows there are -/
noncomputable def ctUndo : Ctr := ([(1, 452, 0)], gdR 453 0, [], (13, 5, 6) :: wRow 31 0, [anyI (gdR 453 0)])
noncomputable def mdU : MDT := (1, nb_X11_undo, [])
noncomputable def chU1 (m : Nat) : Bool := xseg kd0 sh0 rt0 bd0 un0 (inW ctUndo.2.2.2.1) PRK MT0 (ctL [(178, ctCp 457 (627 * m) 453 0)]) 4 mdU [] [anyI (fM 5 m m :: gdR 453 0)] 1000 0 (spI 1 ctUndo.1, fM 5 ((m : Int) + 1) ((m : Int) + 1) :: gdR 457 (627 * m), [])
theorem chU : allN 8 chU1 = true := by decide +kernel
theorem chU0 : xseg kd0 sh0 rt0 bd0 un0 (inW ctUndo.2.2.2.1) PRK MT0 (ctL []) 4 mdU [] [anyI (fM 5 0 0 :: gdR 453 0)] 1000 0 (spI 1 ctUndo.1, fM 5 0 0 :: gdR 453 0, []) = true := by decide +kernel
theorem rows_p {m : Nat} (hm : m < 8) : (457, 627 * m) ∈ rows9 := by
  have : m = 0 ∨ m = 1 ∨ m = 2 ∨ m = 3 ∨ m = 4 ∨ m = 5 ∨ m = 6 ∨ m = 7 := by omega
  rcases this with e | e | e | e | e | e | e | e <;> rw [e] <;> decide
theorem anyI_ok {f g : List Fct} {r : Res} (h : pOK kd0 (anyI f) r) (hg : PrFa kd0 [] g r.2.2.2.2.2.1) : pOK kd0 (anyI g) r := ⟨h.1, h.2.1, hg, h.2.2.2⟩
theorem undo_ok {Ev : Env9} : CK Ev 10 (328, ctUndo) := by
  intro k hk
  obtain ⟨k', rfl⟩ : ∃ k', k = k' + 1 := ⟨k - 1, by omega⟩
  refine ctr_st hR9 (md := mdU) (mo_X11_undo rfl _) (Nat.le_of_ble_eq_true rfl) (fun d c hmC M0 hI0 hn f hf L M hQ hM => ?_)
  obtain ⟨hT, hInv, hFr⟩ := hM
  have hp := pastM hT
  by_cases h0 : rdI M 452 5 = 0
  · refine seg1 (C := 1000) (F := 0) hu0 hang_K (csL (b := 0) (l := []) hang_K (fun y ct hm => by cases hm) (by omega)) hmC chU0 (by omega) ⟨hQ.1, prFa_app (l := [fM 5 0 0]) (prFa_1 (c := 452) (i := 5) (by omega) (by omega) (by omega)) hQ.2.1, fun q hq => by cases hq⟩ hT (Inv0_K (m := 0) h0 hInv) (fun q q1 => by cases q1) (fun r r1 r2 r3 q => ?_)
    obtain ⟨w, hw, hw1⟩ := q
    obtain rfl := List.mem_singleton.mp hw
    have g4 := fact_at hw1.2.2.1 (c := 452) (i := 5) (lo := 0) (hi := 0) List.mem_cons_self
    exact ⟨r1, r2, r3.1, InvK_0 (m := 0) (by omega) r3.2.1, fun j hj i hi => by rw [r3.2.2 j hj i hi]; exact hFr j hj i hi, _, List.mem_singleton.mpr rfl, anyI_ok hw1 (prFa_r (l := [fM 5 0 0]) hw1.2.2.1)⟩
  · obtain ⟨m, hm, hme⟩ : ∃ m : Nat, m < 8 ∧ rdI M 452 5 = (m : Int) + 1 := ⟨(rdI M 452 5 - 1).toNat, by omega, by omega⟩
    have hK : InvK m M := ⟨hInv.1, hInv.2.1, fun i h1 h2 => hInv.2.2 i h2 (by omega)⟩
    refine seg1 (C := 1000) (F := 0) hu0 hang_K (cs1 (b := 1) hang_K (cp_any (by omega) (by omega) ku_453 (by omega) (upc m hm) (fun M1 M2 _ g1 g2 => InvK_cp (rows_p hm) (by decide) g2 (by omega) (by omega) (Or.inl (by omega)) g1)) (by omega)) hmC (allN_ok chU m hm) (by omega) ⟨hQ.1, prFa_app (l := [fM 5 ((m : Int) + 1) ((m : Int) + 1)]) (prFa_1 (c := 452) (i := 5) (by omega) (by omega) (by omega)) (of_good (by omega) (hInv.2.2 m hm (by omega))), fun q hq => by cases hq⟩ hT hK (fun q q1 => by cases q1) (fun r r1 r2 r3 q => ?_)
    obtain ⟨w, hw, hw1⟩ := q
    obtain rfl := List.mem_singleton.mp hw
    have g4 := fact_at hw1.2.2.1 (c := 452) (i := 5) (lo := m) (hi := m) List.mem_cons_self
    exact ⟨r1, r2, r3.1, InvK_0 (m := m) (by omega) r3.2.1, fun j hj i hi => by rw [r3.2.2 j hj i hi]; exact hFr j hj i hi, _, List.mem_singleton.mpr rfl, anyI_ok hw1 (prFa_r (l := [fM 5 m m]) hw1.2.2.1)⟩
/-- restore -/
noncomputable def ctRest : Ctr := ([(1, 452, 0)], gdR 453 0, [], (13, 5, 6) :: wRow 31 0, [anyI (gdR 453 0)])
noncomputable def mdR : MDT := (1, nb_X11_restore, [])
theorem chR0 : xseg kd0 sh0 rt0 bd0 un0 (inW ctRest.2.2.2.1) PR0 MT0 (ctL []) 4 mdR [] [anyI (gdR 453 0)] 1000 0 (spI 1 ctRest.1, fM 7 0 0 :: gdR 453 0, []) = true := by decide +kernel
theorem chR1 : xseg kd0 sh0 rt0 bd0 un0 (inW ctRest.2.2.2.1) PRK MT0 (ctL [(178, ctCp 454 0 453 0)]) 4 mdR [] [anyI (fM 5 0 0 :: gdR 453 0)] 1000 0 (spI 1 ctRest.1, fM 7 1 1 :: gdR 454 0, []) = true := by decide +kernel
theorem tySav : ytyp kd0 sh0 452 ((7 : Nat) : Int) = true := by decide +kernel
theorem bdSav : bd0 (kd0 452) ((7 : Nat) : Int) = (0, 1) := by decide +kernel
theorem savM {M : Mem} (hT : TI kd0 sh0 rt0 bd0 M) : 0 ≤ rdI M 452 7 ∧ rdI M 452 7 ≤ 1 := by
  obtain ⟨_, j, h1, h2⟩ := ytyp_ok hT tySav
  have e : j = 7 := by omega
  subst e
  rw [bdSav] at h2
  exact h2
theorem rest_ok {Ev : Env9} : CK Ev 10 (330, ctRest) := by
  intro k hk
  obtain ⟨k', rfl⟩ : ∃ k', k = k' + 1 := ⟨k - 1, by omega⟩
  refine ctr_st hR9 (md := mdR) (mo_X11_restore rfl _) (Nat.le_of_ble_eq_true rfl) (fun d c hmC M0 hI0 hn f hf L M hQ hM => ?_)
  obtain ⟨hT, hInv, hFr⟩ := hM
  have hp := savM hT
  by_cases h0 : rdI M 452 7 = 0
  · refine seg1 (C := 1000) (F := 0) hu0 hang_0 (csL (b := 0) (l := []) hang_0 (fun y ct hm => by cases hm) (by omega)) hmC chR0 (by omega) ⟨hQ.1, prFa_app (l := [fM 7 0 0]) (prFa_1 (c := 452) (i := 7) (by omega) (by omega) (by omega)) hQ.2.1, fun q hq => by cases hq⟩ hT hInv (fun q q1 => by cases q1) (fun r r1 r2 r3 q => ?_)
    exact ⟨r1, r2, r3.1, r3.2.1, fun j hj i hi => by rw [r3.2.2 j hj i hi]; exact hFr j hj i hi, q⟩
  · refine seg1 (C := 1000) (F := 0) hu0 hang_K (cs1 (b := 1) hang_K (cp_any (by omega) (by omega) ku_453 (by omega) cq_454_453 (fun M1 M2 _ g1 g2 => InvK_cp (m := 0) (by decide) (by decide) g2 (by omega) (by omega) (Or.inl (by omega)) g1)) (by omega)) hmC chR1 (by omega) ⟨hQ.1, prFa_app (l := [fM 7 1 1]) (prFa_1 (c := 452) (i := 7) (by omega) (by omega) (by omega)) (of_good (by omega) (hInv.2.1.1 (by omega))), fun q hq => by cases hq⟩ hT (⟨hInv.1, hInv.2.1, fun i h1 _ => by omega⟩ : InvK 0 M) (fun q q1 => by cases q1) (fun r r1 r2 r3 q => ?_)
    obtain ⟨w, hw, hw1⟩ := q
    obtain rfl := List.mem_singleton.mp hw
    have g4 := fact_at hw1.2.2.1 (c := 452) (i := 5) (lo := 0) (hi := 0) List.mem_cons_self
    exact ⟨r1, r2, r3.1, InvK_0 (m := 0) (by omega) r3.2.1, fun j hj i hi => by rw [r3.2.2 j hj i hi]; exact hFr j hj i hi, _, List.mem_singleton.mpr rfl, anyI_ok hw1 (prFa_r (l := [fM 5 0 0]) hw1.2.2.1)⟩
