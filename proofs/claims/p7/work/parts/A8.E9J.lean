/-! the walk: the loop over the script -/
noncomputable def dvp (x : Nat → Int32) : Nat → Int32 := fun j => if j = 4000 then x 1 - x 1 / 3 * 3 else x j
noncomputable def ptE (x : Nat → Int32) (N : Nat) : Env9 := (List.range N).map (fun j => (bi (toN (x j)), bi (toN (x j))))
theorem nthE_get : ∀ (E : Env9) (i : Nat), nthE E i = (E[i]?).getD (0, 4294967295) := by
  intro E
  induction E with
  | nil => intro i; rfl
  | cons x t ih =>
    intro i
    cases i with
    | zero => rfl
    | succ i =>
      rw [List.getElem?_cons_succ]
      exact ih i
theorem ptE_at {x : Nat → Int32} {N j : Nat} (h : j < N) : nthE (ptE x N) j = (bi (toN (x j)), bi (toN (x j))) := by
  rw [nthE_get]
  unfold ptE
  rw [List.getElem?_map, List.getElem?_range h]
  rfl
theorem ptE_out {x : Nat → Int32} {N j : Nat} (h : N ≤ j) : nthE (ptE x N) j = (0, 4294967295) := by
  rw [nthE_get]
  unfold ptE
  rw [List.getElem?_map, List.getElem?_eq_none (by rw [List.length_range]; exact h)]
  rfl
theorem ptE_ok {G : Gam} {x : Nat → Int32} {N : Nat} (hG : ∀ j, j < N → G.1 j = x j) (h6 : G.1 4000 = G.1 1 - G.1 1 / 3 * 3) : envR G (ptE x N) := by
  refine ⟨fun i => ?_, h6⟩
  by_cases h : i < N
  · rw [ptE_at h, hG i h]
    exact ⟨Nat.le_refl _, Nat.le_refl _⟩
  · rw [ptE_out (Nat.le_of_not_lt h)]
    exact ⟨Nat.zero_le _, bi_le _⟩
theorem ptE_PE {x : Nat → Int32} {N : Nat} : PE N (ptE x N) := fun j h => ⟨toN (x j), toN_lt _, ptE_at h⟩
theorem ww_any {p : Program} {l : Launch} {e : Env} {R : Room} {s : State} {m : MethodId} {args : Array Value} {below : List Frame} {meth : Method} {c : Code} {Q : State → Prop} {D : va_G} {G : Gam} {A : Nat → Prop} {ρ0 : List Nat} {nL pc : Nat} {E : Env9} {n z v : Nat} {L : List AV} {M : Mem} (h : WW p l e R s m args below meth c Q D G A ρ0 nL pc E n z L [vX none] M) : WW p l e R s m args below meth c Q D G A ρ0 nL pc E n z L [vI v] M := by
  intro ρ H locs ls st h0 hE hM hS hL hs
  obtain ⟨u, st', rfl, hu, hs⟩ := czs_cons hs
  exact h ρ H locs ls (u :: st') h0 hE hM hS hL ⟨⟨_, hu⟩, hs⟩
theorem whole_start {p : Program} {e : Env} {s : State} {m : MethodId} {below : List Frame} {meth : Method} {c : Code} (l : Launch) (hflags : l.flags = flags0) {b L : Nat} {xs : Nat → Int32} (hL : L ≤ 3072) (C0 : lw_At p s m meth c b L xs) : W p l e room_1 s m #[Value.ref b] below meth c s.heap [] 0 0 (lw_Z below #[Value.ref b] s) (entryFrame m ([Value.ref b] : List Value).toArray 9) := by
  obtain ⟨hx, hb, hr, hml, hown, hts, hX, hbl, hlocks, hgv⟩ := C0
  obtain ⟨ad, hFx⟩ := Fx_start hts hgv
  obtain ⟨D, hK⟩ := vaK_start hts
  have hst : l.stackTraces = false := by
    unfold Launch.stackTraces
    rw [hflags]
    decide
  have hA : ∀ q : Nat, s.heap.size ≤ q → (fun q : Nat => s.heap.size ≤ q) q := fun _ h => h
  have hC : Cx cL_law "EchoFairLaw" lw_tbl p l s m #[.ref b] meth c D (dvp xs, ad, b) (fun q => s.heap.size ≤ q) 9 := ⟨hx, hb, hml, hown, hts, hK, hA⟩
  have hg : ∀ j, j < L → dvp xs j = xs j := fun j hj => if_neg (by omega)
  have h6 : dvp xs 4000 = dvp xs 1 - dvp xs 1 / 3 * 3 := rfl
  have hX' : va_X b L (dvp xs) s s.heap := by
    obtain ⟨scr, g1, g2, g3, g4, g5⟩ := hX
    exact ⟨scr, g1, g2, g3, g4, fun j hj => by rw [hg j (by omega)]; exact g5 j hj⟩
  refine W.base ?_
  intro T hT X
  have hroom := X.room
  -- the end
  have hend : ∀ E n z (L9 : List AV) M, z ≤ 600000 → WW p l e roomL s m #[.ref b] below meth c (lw_Z below #[Value.ref b] s) D (dvp xs, ad, b) (fun q => s.heap.size ≤ q) [] 9 1906 E n z L9 [vI 1] M := by
    intro E n z L9 M hz ρ H locs ls st h0 hE hM hS hL9 hs
    obtain ⟨u, st, rfl, hu, hs⟩ := czs_cons hs
    cases st with
    | cons _ _ => exact hs.elim
    | nil =>
      have hu : u = .int (nI 1) := hu
      subst hu
      refine va_forget (fun q hq => hS.2.2 q hq) ?_
      refine W.widen (k := 601024) (n := 7293034) (by omega) (by omega) ?_
      intro T1 hT1 X1
      exact lw_ret (d0 := s.drawn) (Drawn.sameBut.refl s.drawn lw_cs) hx hb hr hlocks dL_law_1906 T1 hT1 ⟨X1.admits, X1.cas, X1.clock, X1.frames, hroom, X1.hears, X1.method, X1.code, X1.here, X1.tail, X1.warmed, X1.limits, X1.bytes, X1.same⟩
  have mkX : ∀ (call : Call) (Pe : Res → Prop), CallOK l D (dvp xs, ad, b) (fun q => s.heap.size ≤ q) infT call → (∀ q E n z S L9 M, Pe ((3, q), E, vW 3, S, L9, M, n, z) → WW p l e roomL s m #[.ref b] below meth c (lw_Z below #[Value.ref b] s) D (dvp xs, ad, b) (fun q => s.heap.size ≤ q) [] 9 q E n z L9 S M) → Lx L p l e s m #[.ref b] below meth c (lw_Z below #[Value.ref b] s) D (dvp xs, ad, b) (fun q => s.heap.size ≤ q) Pe call :=
    fun call Pe h1 h2 => ⟨hC, h1, hFx (dvp xs), hX', hbl, Nat.not_le.mpr hbl, by omega, fun q E n z L9 S M h => h2 q E n z S L9 M h⟩
  have hM : ∀ k, CallOK l D (dvp xs, ad, b) (fun q => s.heap.size ≤ q) infT (runM k) := runM_ok (l := l) (D := D) (G := (dvp xs, ad, b)) (A := fun q => s.heap.size ≤ q) hst
  -- the loop, from the switch on
  have at40 : ∀ (k i z : Nat) (a9 b9 c9 d9 : AV) (v : Nat) (M : Mem), L ≤ i + 6 * k + 5 → i + 6 ≤ L → z + 21 * k ≤ 600000 → JI M → RZ M → WW p l e roomL s m #[.ref b] below meth c (lw_Z below #[Value.ref b] s) D (dvp xs, ad, b) (fun q => s.heap.size ≤ q) [] 9 40 (ptE xs L) 466 z (LB i a9 b9 c9 d9) [vI v] M := by
    intro k
    induction k with
    | zero => intro i z a9 b9 c9 d9 v M h1 h2; omega
    | succ k ih =>
      intro i z a9 b9 c9 d9 v M h1 h2 h3 hJ hl
      refine ww_any (sw_any hC (fun y => ?_))
      obtain ⟨r, e1, hr9⟩ := case_all (N := L) (E := ptE xs L) hL ptE_PE y i z a9 b9 c9 d9 M h2 (by omega) hJ hl
      refine law_ok (mkX (runM 200) (fun r' => r' = r) (hM 200) (fun q E n z' S L9 M9 hq => ?_)) 10 _ (ptE xs L) 466 z (LB i a9 b9 c9 d9) [] M _ e1 (fun r' hr' => List.mem_singleton.mp hr')
      obtain ⟨z2, L2, M2, q1, q2, q3, ⟨a2, b2, c2, d2, q4⟩, q5⟩ := hr9
      rcases q5 with ⟨q6, v2, q7⟩ | q7
      · rw [q7, q4] at hq
        cases hq
        exact ih (i + 6) _ a2 b2 c2 d2 v2 _ (by omega) (by omega) (by omega) q2 q3
      · rw [q7] at hq
        cases hq
        exact hend _ _ _ _ _ (by omega)
  -- behind the constructors
  have at23 : WW p l e roomL s m #[.ref b] below meth c (lw_Z below #[Value.ref b] s) D (dvp xs, ad, b) (fun q => s.heap.size ≤ q) [] 9 23 (ptE xs L) 466 15522 L1 [] M1 := by
    rcases head_ok (call := runM 200) (N := L) (E := ptE xs L) (i := 0) (z := 15522) (a := vW 3) (b := vW 3) (c := vW 3) (d := vW 3) (M := M1) (f := 3) hL (by omega) ptE_PE with ⟨h1, v, e1⟩ | e1
    · refine law_ok (mkX (runM 200) (fun r' => r' = ((3, 40), ptE xs L, vW 3, [vI v], LB 0 (vW 3) (vW 3) (vW 3) (vW 3), M1, 466, 15522)) (hM 200) (fun q E n z' S L9 M9 hq => ?_)) 6 1 (ptE xs L) 466 15522 L1 [] M1 _ e1 (fun r' hr' => List.mem_singleton.mp hr')
      cases hq
      exact at40 512 0 15522 _ _ _ _ v M1 (by omega) (by omega) (by omega) JI_1 RZ_1
    · refine law_ok (mkX (runM 200) (fun r' => r' = ((3, 1906), ptE xs L, vW 3, [vI 1], LB 0 (vW 3) (vW 3) (vW 3) (vW 3), M1, 466, 15522)) (hM 200) (fun q E n z' S L9 M9 hq => ?_)) 6 1 (ptE xs L) 466 15522 L1 [] M1 _ e1 (fun r' hr' => List.mem_singleton.mp hr')
      cases hq
      exact hend _ _ _ _ _ (by omega)
  have at23' : WW p l e roomL s m #[.ref b] below meth c (lw_Z below #[Value.ref b] s) D (dvp xs, ad, b) (fun q => s.heap.size ≤ q) [] 9 23 E0 466 15522 L1 [] M1 := fun ρ H locs ls st h0 _ hM9 hS9 hL9 hs9 => at23 ρ H locs ls st h0 (ptE_ok hg h6) hM9 hS9 hL9 hs9
  have key : W p l e roomL s m #[Value.ref b] below meth c s.heap [] 0 0 (lw_Z below #[Value.ref b] s) (entryFrame m ([Value.ref b] : List Value).toArray 9) := by
    have h0 := bk_L_law_0 (N := L) (mkX (runM 20) (fun r => r = ((3, 23), E0, vW 3, [], L1, M1, 466, 15522)) (hM 20) (fun q E n z S L9 M hq => by cases hq; exact at23')) (j := jCut) (jcut_ok (mkX (runM 20) (fun r => r = ((3, 23), E0, vW 3, [], L1, M1, 466, 15522)) (hM 20) (fun q E n z S L9 M hq => by cases hq; exact at23')))
    have hl := lv_entry ([.ref b]) (n := 9) (Nat.le_of_ble_eq_true rfl)
    rw [lg_entry_eq]
    refine h0 E0 0 0 _ [] M00 _ (show runB (runM 20) jCut (bl_L_law_0 L).2 (bl_L_law_0 L).1 E0 0 0 (iniL 9 [vW 2]) [] M00 = _ from pref_e) (fun r hr => List.mem_singleton.mp hr) [] s.heap [] _ [] (List.prefix_refl []) (E0_ok _ h6) M00_ok va_S.rf ⟨hl.1, hl.2.1, rfl, fun i => ?_⟩ trivial
    rcases ini_at (9 - (flatL [vW 2]).length) [vW 2] [.ref b] 0 (show czs (dvp xs, ad, b) [] [vW 2] [.ref b] from ⟨Or.inr (Or.inr (Or.inl ⟨rfl, rfl⟩)), trivial⟩) i with q | ⟨v, q1, q2⟩
    · exact Or.inl q
    · rw [Nat.zero_add] at q2
      exact Or.inr ⟨v, q1, hl.2.2 (i, v) q2⟩
  exact key T hT ⟨X.admits, X.cas, X.clock, X.frames, room_less X.room (by decide) (by decide) (by decide) (by decide), X.hears, X.method, X.code, X.here, X.tail, X.warmed, X.limits, X.bytes, X.same⟩
