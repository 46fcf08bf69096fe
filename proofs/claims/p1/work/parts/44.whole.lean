/-! out of the runs: the claim's own walk -/
theorem bi_le (x : Nat) : bi x ≤ 4294967295 := by
  unfold bi
  omega
noncomputable def E0 : Env9 := [(0, 4294967295), (0, 4294967295), (0, 4294967295), (0, 4294967295), (0, 4294967295), (0, 4294967295), (0, 4294967295), (0, 4294967295), (0, 4294967295), (0, 4294967295), (0, 4294967295), (0, 4294967295)]
theorem nthE_rep : ∀ (E : Env9), (∀ q ∈ E, q = (0, 4294967295)) → ∀ i, nthE E i = (0, 4294967295) := by
  intro E
  induction E with
  | nil => intro _ i; rfl
  | cons x t ih =>
    intro h i
    cases i with
    | zero => exact h x List.mem_cons_self
    | succ i => exact ih (fun q hq => h q (List.mem_cons_of_mem _ hq)) i
theorem E0_ok (G : Gam) (h6 : G.1 6 = G.1 1 - G.1 1 / 3 * 3) : envR G E0 := by
  refine ⟨fun i => ?_, h6⟩
  have h : nthE E0 i = (0, 4294967295) := nthE_rep E0 (by decide) i
  rw [h]
  exact ⟨Nat.zero_le _, bi_le _⟩
noncomputable def M00 : Mem := trep (cO 0 []) 9
theorem M00_ok {D : va_G} {s : State} {G : Gam} {A : Nat → Prop} {H : Heap} : memR D s G A [] 0 M00 H := ⟨[], rfl, rfl, by omega, fun k q h => by simp at h, fun k q h => by simp at h, ⟨fun i j p q h => by simp at h, fun k q h => by simp at h⟩⟩
/-- what the runs must give: the two constructors, then the loop's test, then each case of the switch -/
def Runs (G : Gam) (l : Launch) (D : va_G) (A : Nat → Prop) (L1 L2 : List AV) (M1 : Mem) (n1 z1 : Nat) : Prop :=
  (runB (runM 20) jCut (bl_L_law_0 6).2 (bl_L_law_0 6).1 E0 0 0 (iniL 9 [vW 2]) [] M00 = some [((3, 23), E0, vW 3, [], L1, M1, n1, z1)]) ∧
  (∀ N, N < 6 → allR lEnd (runF (runM 20) 9 (ct_L_law N) fuel9 1 E0 n1 z1 L1 [] M1) = true) ∧
  (runF (runM 20) 9 (ct_L_law 6) fuel9 1 E0 n1 z1 L1 [] M1 = some [((3, 40), E0, vW 3, [vX none], L2, M1, n1, z1)]) ∧
  (∀ i, ∃ call E, CallOK l D G A infT call ∧ envR G E ∧ allR lEnd (runF call 9 (ct_L_law 6) fuel9 (nthN swT swD i) E n1 z1 L2 [] M1) = true)
theorem whole_of {p : Program} {e : Env} {s : State} {m : MethodId} {below : List Frame} {meth : Method} {c : Code} (l : Launch) (hflags : l.flags = flags0) {b L : Nat} {xs : Nat → Int32} (hL : L ≤ 6) (C0 : lw_At p s m meth c b L xs) (dv : (Nat → Int32) → Nat → Int32) (hdv : ∀ x i, i < 6 → dv x i = x i) (hd6 : ∀ x, dv x 6 = dv x 1 - dv x 1 / 3 * 3) {L1 L2 : List AV} {M1 : Mem} {n1 z1 : Nat} (hruns : l.stackTraces = false → ∀ D ad, Runs (dv xs, ad, b) l D (fun q => s.heap.size ≤ q) L1 L2 M1 n1 z1) : W p l e room_1 s m #[Value.ref b] below meth c s.heap [] 0 0 (lw_Z below #[Value.ref b] s) (entryFrame m ([Value.ref b] : List Value).toArray 9) := by
  obtain ⟨hx, hb, hr, hml, hown, hts, hX, hbl, hlocks, hgv⟩ := C0
  obtain ⟨ad, hFx⟩ := Fx_start hts hgv
  obtain ⟨D, hK⟩ := vaK_start hts
  have hst : l.stackTraces = false := by
    unfold Launch.stackTraces
    rw [hflags]
    decide
  obtain ⟨r1, r2, r3, r4⟩ := hruns hst D ad
  have hA : ∀ q : Nat, s.heap.size ≤ q → (fun q : Nat => s.heap.size ≤ q) q := fun _ h => h
  have hC : Cx cL_law "EchoFairLaw" lw_tbl p l s m #[.ref b] meth c D (dv xs, ad, b) (fun q => s.heap.size ≤ q) 9 := ⟨hx, hb, hml, hown, hts, hK, hA⟩
  have hX' : va_X b L (dv xs) s s.heap := by
    obtain ⟨scr, g1, g2, g3, g4, g5⟩ := hX
    exact ⟨scr, g1, g2, g3, g4, fun j hj => by rw [hdv xs j (by omega)]; exact g5 j hj⟩
  refine W.base ?_
  intro T hT X
  have hroom := X.room
  -- the end
  have hend : ∀ E n z (L9 : List AV) M, z ≤ 600000 → WW p l e roomL s m #[.ref b] below meth c (lw_Z below #[Value.ref b] s) D (dv xs, ad, b) (fun q => s.heap.size ≤ q) [] 9 3113 E n z L9 [vI 1] M := by
    intro E n z L9 M hz ρ H locs ls st h0 hE hM hS hL9 hs
    obtain ⟨u, st, rfl, hu, hs⟩ := czs_cons hs
    cases st with
    | cons _ _ => exact hs.elim
    | nil =>
      have hu : u = .int (nI 1) := hu
      subst hu
      refine va_forget (fun q hq => hS.2.2 q hq) ?_
      refine W.widen (k := 600002) (n := 7302232) (by omega) (by omega) ?_
      intro T1 hT1 X1
      exact lw_ret (d0 := s.drawn) (Drawn.sameBut.refl s.drawn lw_cs) hx hb hr hlocks dL_law_3113 T1 hT1 ⟨X1.admits, X1.cas, X1.clock, X1.frames, hroom, X1.hears, X1.method, X1.code, X1.here, X1.tail, X1.warmed, X1.limits, X1.bytes, X1.same⟩
  have mkX : ∀ (call : Call) (Pe : Res → Prop), CallOK l D (dv xs, ad, b) (fun q => s.heap.size ≤ q) infT call → (∀ q E n z S L9 M, Pe ((3, q), E, vW 3, S, L9, M, n, z) → WW p l e roomL s m #[.ref b] below meth c (lw_Z below #[Value.ref b] s) D (dv xs, ad, b) (fun q => s.heap.size ≤ q) [] 9 q E n z L9 S M) → Lx L p l e s m #[.ref b] below meth c (lw_Z below #[Value.ref b] s) D (dv xs, ad, b) (fun q => s.heap.size ≤ q) Pe call :=
    fun call Pe h1 h2 => ⟨hC, h1, hFx (dv xs), hX', hbl, Nat.not_le.mpr hbl, by omega, fun q E n z L9 S M h => h2 q E n z S L9 M h⟩
  have toEnd : ∀ (call : Call) (f bk : Nat) (E : Env9) (n z : Nat) (L9 S : List AV) (M : Mem), CallOK l D (dv xs, ad, b) (fun q => s.heap.size ≤ q) infT call → allR lEnd (runF call 9 (ct_L_law L) f bk E n z L9 S M) = true → WW p l e roomL s m #[.ref b] below meth c (lw_Z below #[Value.ref b] s) D (dv xs, ad, b) (fun q => s.heap.size ≤ q) [] 9 (pc_L_law bk) E n z L9 S M := by
    intro call f bk E n z L9 S M hcall h
    obtain ⟨rs, h1, h2⟩ := allR_some h
    refine law_ok (mkX call (fun r => lEnd r = true) hcall (fun q E n z S L9 M hq => ?_)) f bk E n z L9 S M rs h1 h2
    obtain ⟨rfl, rfl, hz⟩ := lEnd_is hq
    exact hend E n z L9 M hz
  have hM := runM_ok (l := l) (D := D) (G := (dv xs, ad, b)) (A := fun q => s.heap.size ≤ q) hst 20
  -- behind the constructors
  have at23 : WW p l e roomL s m #[.ref b] below meth c (lw_Z below #[Value.ref b] s) D (dv xs, ad, b) (fun q => s.heap.size ≤ q) [] 9 23 E0 n1 z1 L1 [] M1 := by
    by_cases h6 : L < 6
    · exact toEnd (runM 20) fuel9 1 E0 n1 z1 L1 [] M1 hM (r2 L h6)
    · have e6 : L = 6 := by omega
      rw [← e6] at r3 r4
      refine law_ok (mkX (runM 20) (fun r => r = ((3, 40), E0, vW 3, [vX none], L2, M1, n1, z1)) hM (fun q E n z S L9 M hq => ?_)) fuel9 1 E0 n1 z1 L1 [] M1 _ r3 (fun r hr => List.mem_singleton.mp hr)
      cases hq
      refine sw_any hC (fun i => ?_)
      obtain ⟨call, E9, k1, kE, k2⟩ := r4 i
      have k3 := toEnd call fuel9 _ E9 n1 z1 L2 [] M1 k1 k2
      exact fun ρ H locs ls st h0 _ => k3 ρ H locs ls st h0 kE
  have key : W p l e roomL s m #[Value.ref b] below meth c s.heap [] 0 0 (lw_Z below #[Value.ref b] s) (entryFrame m ([Value.ref b] : List Value).toArray 9) := by
    have h0 := bk_L_law_0 (N := L) (mkX (runM 20) (fun r => r = ((3, 23), E0, vW 3, [], L1, M1, n1, z1)) hM (fun q E n z S L9 M hq => by cases hq; exact at23)) (j := jCut) (jcut_ok (mkX (runM 20) (fun r => r = ((3, 23), E0, vW 3, [], L1, M1, n1, z1)) hM (fun q E n z S L9 M hq => by cases hq; exact at23)))
    have hl := lv_entry ([.ref b]) (n := 9) (Nat.le_of_ble_eq_true rfl)
    rw [lg_entry_eq]
    refine h0 E0 0 0 _ [] M00 _ r1 (fun r hr => List.mem_singleton.mp hr) [] s.heap [] _ [] (List.prefix_refl []) (E0_ok _ (hd6 xs)) M00_ok va_S.rf ⟨hl.1, hl.2.1, rfl, fun i => ?_⟩ trivial
    rcases ini_at (9 - (flatL [vW 2]).length) [vW 2] [.ref b] 0 (show czs (dv xs, ad, b) [] [vW 2] [.ref b] from ⟨Or.inr (Or.inr (Or.inl ⟨rfl, rfl⟩)), trivial⟩) i with q | ⟨v, q1, q2⟩
    · exact Or.inl q
    · rw [Nat.zero_add] at q2
      exact Or.inr ⟨v, q1, hl.2.2 (i, v) q2⟩
  exact key T hT ⟨X.admits, X.cas, X.clock, X.frames, room_less X.room (by decide) (by decide) (by decide) (by decide), X.hears, X.method, X.code, X.here, X.tail, X.warmed, X.limits, X.bytes, X.same⟩
