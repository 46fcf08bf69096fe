/-! out of the runs: the claim's own walk -/
theorem bi_le (x : Nat) : bi x ≤ 4294967295 := by
  unfold bi
  omega
noncomputable def E0 : Env9 := [(0, 4294967295), (0, 4294967295), (0, 4294967295), (0, 4294967295), (0, 4294967295), (0, 4294967295), (0, 4294967295), (0, 4294967295), (0, 4294967295), (0, 4294967295), (0, 4294967295), (0, 4294967295)]
theorem nthE_rep : ∀ (E : Env9), (∀ q ∈ E, q = (0, 4294967295)) → ∀ i, nthE E i = (0, 4294967295) := by
  intro E
  induction E with
  | nil => intro _ i; rfl
  | cons x t ih =>
    intro h i
    cases i with
    | zero => exact h x List.mem_cons_self
    | succ i => exact ih (fun q hq => h q (List.mem_cons_of_mem _ hq)) i
theorem E0_ok (G : Gam) (h6 : G.1 6 = G.1 1 - G.1 1 / 3 * 3) : envR G E0 := by
  refine ⟨fun i => ?_, h6⟩
  have h : nthE E0 i = (0, 4294967295) := nthE_rep E0 (by decide) i
  rw [h]
  exact ⟨Nat.zero_le _, bi_le _⟩
noncomputable def M00 : Mem := trep (cO 0 []) 9
theorem M00_ok {D : va_G} {s : State} {G : Gam} {A : Nat → Prop} {H : Heap} : memR D s G A [] 0 M00 H := ⟨[], rfl, rfl, by omega, fun k q h => by simp at h, fun k q h => by simp at h, ⟨fun i j p q h => by simp at h, fun k q h => by simp at h⟩⟩
/-! what doesn't hang on the script's numbers -/
noncomputable def clV (a : AV) : Bool := match a with | .inr (.inr (.inr (.inl (some _)))) => false | .inr (.inr (.inr (.inr (.inl _)))) => false | _ => true
noncomputable def clL (l : List AV) : Bool := List.rec true (fun a _ ih => Bool.rec false ih (clV a)) l
noncomputable def clC (c : Cel) : Bool := match c with
  | .inl q => clL q.2
  | .inr (.inl q) => (match q.2.2.2 with | [] => true | _ => false)
  | .inr (.inr (.inl q)) => clL q.2
  | .inr (.inr (.inr xs)) => clL xs
noncomputable def clM (d : Nat) : TrT Cel d → Bool := Nat.rec (motive := fun d => TrT Cel d → Bool) (fun (a : Cel) => clC a) (fun _ ih (a : TrT Cel _ × TrT Cel _) => Bool.rec false (ih a.2) (ih a.1)) d
theorem cz_cl {G : Gam} (g : Nat → Int32) {ρ : List Nat} {a : AV} {v : Value} (h : clV a = true) (hc : cz G ρ a v) : cz (g, G.2) ρ a v := by
  rcases a with n | k | n | o | i | w | n | n
  · exact hc
  · exact hc
  · exact hc
  · cases o with
    | none => exact hc
    | some o => cases h
  · cases h
  · exact hc
  · exact hc
  · exact hc
theorem clL_cons {a : AV} {l : List AV} (h : clL (a :: l) = true) : clV a = true ∧ clL l = true := by
  have h9 : (Bool.rec false (clL l) (clV a) : Bool) = true := h
  cases h1 : clV a with
  | false => rw [h1] at h9; cases h9
  | true => rw [h1] at h9; exact ⟨rfl, h9⟩
theorem clL_nth : ∀ {l : List AV}, clL l = true → ∀ j, clV (nth l j) = true := by
  intro l
  induction l with
  | nil => intro _ j; rfl
  | cons a l ih =>
    intro h j
    obtain ⟨h1, h2⟩ := clL_cons h
    cases j with
    | zero => exact h1
    | succ j => exact ih h2 j
theorem czs_cl {G : Gam} (g : Nat → Int32) {ρ : List Nat} : ∀ {l : List AV} {w : List Value}, clL l = true → czs G ρ l w → czs (g, G.2) ρ l w := by
  intro l
  induction l with
  | nil => intro w _ hc; cases w <;> exact hc
  | cons a l ih =>
    intro w h hc
    obtain ⟨v, w', rfl, h1, h2⟩ := czs_cons hc
    obtain ⟨h3, h4⟩ := clL_cons h
    exact ⟨cz_cl g h3 h1, ih h4 h2⟩
theorem celR_cl {s : State} {G : Gam} (g : Nat → Int32) {ρ : List Nat} {c : Cel} {e : va_E} (h : clC c = true) (hc : celR s G ρ c e) : celR s (g, G.2) ρ c e := by
  rcases c with q | q | q | xs
  · obtain ⟨vs, h1, h2⟩ := hc; exact ⟨vs, h1, czs_cl g h h2⟩
  · obtain ⟨cA, f, h1, h2, h3, h4, h5⟩ := hc
    obtain ⟨q1, q2, q3, ov⟩ := q
    cases ov with
    | cons _ _ => cases h
    | nil => exact ⟨cA, f, h1, h2, h3, h4, fun j hj => h5 j hj⟩
  · rcases hc with hc | ⟨cA, f, r, h1, h2, h3, h4, h5⟩
    · exact Or.inl hc
    · exact Or.inr ⟨cA, f, r, h1, h2, h3, h4, fun j hj => cz_cl g (clL_nth (l := q.2) h j) (h5 j hj)⟩
  · obtain ⟨cA, f, h1, h2, h3, h4⟩ := hc; exact ⟨cA, f, h1, h2, h3, fun j hj => cz_cl g (clL_nth (l := xs) h j) (h4 j hj)⟩
theorem clM_get : ∀ (d : Nat) (t : TrT Cel d) (k : Nat), clM d t = true → clC (tget d t k) = true := by
  intro d
  induction d with
  | zero => intro t k h; exact h
  | succ d ih =>
    intro t k h
    obtain ⟨a, b, ht⟩ : ∃ a b : TrT Cel d, t = (show TrT Cel (d + 1) from (a, b)) := ⟨(show TrT Cel d × TrT Cel d from t).1, (show TrT Cel d × TrT Cel d from t).2, rfl⟩
    subst ht
    have h9 : (Bool.rec false (clM d b) (clM d a) : Bool) = true := h
    cases h1 : clM d a with
    | false => rw [h1] at h9; cases h9
    | true =>
      rw [h1] at h9
      rw [tget_s]
      by_cases q : 2 ^ d ≤ k
      · rw [if_pos q]; exact ih b _ h9
      · rw [if_neg q]; exact ih a _ h1
theorem memR_cl {D : va_G} {s : State} {G : Gam} (g : Nat → Int32) {A : Nat → Prop} {ρ : List Nat} {n : Nat} {M : Mem} {H : Heap} (h : clM 9 M = true) (hM : memR D s G A ρ n M H) : memR D s (g, G.2) A ρ n M H := by
  obtain ⟨ws, h1, h2, h3, h4, h5, h6⟩ := hM
  exact ⟨ws, h1, h2, h3, fun k q hk => ⟨(h4 k q hk).1, celR_cl g (clM_get 9 M k h) (h4 k q hk).2⟩, h5, h6⟩
theorem locR_cl {G : Gam} (g : Nat → Int32) {ρ : List Nat} {ls : Array Slot} {nL : Nat} {L : List AV} (h : clL L = true) (hL : locR G ρ ls nL L) : locR (g, G.2) ρ ls nL L :=
  ⟨hL.1, hL.2.1, hL.2.2.1, fun i => (hL.2.2.2 i).elim Or.inl fun ⟨v, h1, h2⟩ => Or.inr ⟨v, cz_cl g (clL_nth h i) h1, h2⟩⟩
/-- what the runs must give: the two constructors, then the loop's test, then each case of the switch -/
def Runs (G : Gam) (l : Launch) (D : va_G) (A : Nat → Prop) (L1 L2 : List AV) (M1 : Mem) (n1 z1 : Nat) : Prop :=
  (runB (runM 20) jCut (bl_L_law_0 6).2 (bl_L_law_0 6).1 E0 0 0 (iniL 9 [vW 2]) [] M00 = some [((3, 23), E0, vW 3, [], L1, M1, n1, z1)]) ∧
  (∀ N, N < 6 → allR lEnd (runF (runM 20) 9 (ct_L_law N) fuel9 1 E0 n1 z1 L1 [] M1) = true) ∧
  (runF (runM 20) 9 (ct_L_law 6) fuel9 1 E0 n1 z1 L1 [] M1 = some [((3, 40), E0, vW 3, [vX none], L2, M1, n1, z1)]) ∧
  (∀ i, ∃ (g : Nat → Int32) (call : Call) (E : Env9), (∀ j, j < 6 → g j = G.1 j) ∧ CallOK l D (g, G.2) A infT call ∧ envR (g, G.2) E ∧ allR lEnd (runF call 9 (ct_L_law 6) fuel9 (nthN swT swD i) E n1 z1 L2 [] M1) = true)
theorem whole_of {p : Program} {e : Env} {s : State} {m : MethodId} {below : List Frame} {meth : Method} {c : Code} (l : Launch) (hflags : l.flags = flags0) {b L : Nat} {xs : Nat → Int32} (hL : L ≤ 6) (C0 : lw_At p s m meth c b L xs) (dv : (Nat → Int32) → Nat → Int32) (hdv : ∀ x i, i < 6 → dv x i = x i) (hd6 : ∀ x, dv x 6 = dv x 1 - dv x 1 / 3 * 3) {L1 L2 : List AV} {M1 : Mem} {n1 z1 : Nat} (hcM : clM 9 M1 = true) (hcL : clL L2 = true) (hruns : l.stackTraces = false → ∀ D ad, Runs (dv xs, ad, b) l D (fun q => s.heap.size ≤ q) L1 L2 M1 n1 z1) : W p l e room_1 s m #[Value.ref b] below meth c s.heap [] 0 0 (lw_Z below #[Value.ref b] s) (entryFrame m ([Value.ref b] : List Value).toArray 9) := by
  obtain ⟨hx, hb, hr, hml, hown, hts, hX, hbl, hlocks, hgv⟩ := C0
  obtain ⟨ad, hFx⟩ := Fx_start hts hgv
  obtain ⟨D, hK⟩ := vaK_start hts
  have hst : l.stackTraces = false := by
    unfold Launch.stackTraces
    rw [hflags]
    decide
  obtain ⟨r1, r2, r3, r4⟩ := hruns hst D ad
  have hA : ∀ q : Nat, s.heap.size ≤ q → (fun q : Nat => s.heap.size ≤ q) q := fun _ h => h
  have hC : ∀ g : Nat → Int32, Cx cL_law "EchoFairLaw" lw_tbl p l s m #[.ref b] meth c D (g, ad, b) (fun q => s.heap.size ≤ q) 9 := fun g => ⟨hx, hb, hml, hown, hts, hK, hA⟩
  have hX' : ∀ g : Nat → Int32, (∀ j, j < 6 → g j = xs j) → va_X b L g s s.heap := by
    intro g hg
    obtain ⟨scr, g1, g2, g3, g4, g5⟩ := hX
    exact ⟨scr, g1, g2, g3, g4, fun j hj => by rw [hg j (by omega)]; exact g5 j hj⟩
  refine W.base ?_
  intro T hT X
  have hroom := X.room
  -- the end
  have hend : ∀ (g : Nat → Int32) E n z (L9 : List AV) M, z ≤ 600000 → WW p l e roomL s m #[.ref b] below meth c (lw_Z below #[Value.ref b] s) D (g, ad, b) (fun q => s.heap.size ≤ q) [] 9 3113 E n z L9 [vI 1] M := by
    intro g E n z L9 M hz ρ H locs ls st h0 hE hM hS hL9 hs
    obtain ⟨u, st, rfl, hu, hs⟩ := czs_cons hs
    cases st with
    | cons _ _ => exact hs.elim
    | nil =>
      have hu : u = .int (nI 1) := hu
      subst hu
      refine va_forget (fun q hq => hS.2.2 q hq) ?_
      refine W.widen (k := 600002) (n := 7302232) (by omega) (by omega) ?_
      intro T1 hT1 X1
      exact lw_ret (d0 := s.drawn) (Drawn.sameBut.refl s.drawn lw_cs) hx hb hr hlocks dL_law_3113 T1 hT1 ⟨X1.admits, X1.cas, X1.clock, X1.frames, hroom, X1.hears, X1.method, X1.code, X1.here, X1.tail, X1.warmed, X1.limits, X1.bytes, X1.same⟩
  have mkX : ∀ (g : Nat → Int32) (call : Call) (Pe : Res → Prop), (∀ j, j < 6 → g j = xs j) → CallOK l D (g, ad, b) (fun q => s.heap.size ≤ q) infT call → (∀ q E n z S L9 M, Pe ((3, q), E, vW 3, S, L9, M, n, z) → WW p l e roomL s m #[.ref b] below meth c (lw_Z below #[Value.ref b] s) D (g, ad, b) (fun q => s.heap.size ≤ q) [] 9 q E n z L9 S M) → Lx L p l e s m #[.ref b] below meth c (lw_Z below #[Value.ref b] s) D (g, ad, b) (fun q => s.heap.size ≤ q) Pe call :=
    fun g call Pe hg h1 h2 => ⟨hC g, h1, hFx g, hX' g hg, hbl, Nat.not_le.mpr hbl, by omega, fun q E n z L9 S M h => h2 q E n z S L9 M h⟩
  have toEnd : ∀ (g : Nat → Int32) (call : Call) (f bk : Nat) (E : Env9) (n z : Nat) (L9 S : List AV) (M : Mem), (∀ j, j < 6 → g j = xs j) → CallOK l D (g, ad, b) (fun q => s.heap.size ≤ q) infT call → allR lEnd (runF call 9 (ct_L_law L) f bk E n z L9 S M) = true → WW p l e roomL s m #[.ref b] below meth c (lw_Z below #[Value.ref b] s) D (g, ad, b) (fun q => s.heap.size ≤ q) [] 9 (pc_L_law bk) E n z L9 S M := by
    intro g call f bk E n z L9 S M hg hcall h
    obtain ⟨rs, h1, h2⟩ := allR_some h
    refine law_ok (mkX g call (fun r => lEnd r = true) hg hcall (fun q E n z S L9 M hq => ?_)) f bk E n z L9 S M rs h1 h2
    obtain ⟨rfl, rfl, hz⟩ := lEnd_is hq
    exact hend g E n z L9 M hz
  have hg0 : ∀ j, j < 6 → dv xs j = xs j := fun j hj => hdv xs j hj
  have hM := runM_ok (l := l) (D := D) (G := (dv xs, ad, b)) (A := fun q => s.heap.size ≤ q) hst 20
  -- behind the constructors
  have at23 : WW p l e roomL s m #[.ref b] below meth c (lw_Z below #[Value.ref b] s) D (dv xs, ad, b) (fun q => s.heap.size ≤ q) [] 9 23 E0 n1 z1 L1 [] M1 := by
    by_cases h6 : L < 6
    · exact toEnd (dv xs) (runM 20) fuel9 1 E0 n1 z1 L1 [] M1 hg0 hM (r2 L h6)
    · have e6 : L = 6 := by omega
      subst e6
      refine law_ok (mkX (dv xs) (runM 20) (fun r => r = ((3, 40), E0, vW 3, [vX none], L2, M1, n1, z1)) hg0 hM (fun q E n z S L9 M hq => ?_)) fuel9 1 E0 n1 z1 L1 [] M1 _ r3 (fun r hr => List.mem_singleton.mp hr)
      cases hq
      refine sw_any (hC _) (fun i => ?_)
      obtain ⟨g, call, E9, kg, k1, kE, k2⟩ := r4 i
      have k3 := toEnd g call fuel9 _ E9 n1 z1 L2 [] M1 (fun j hj => by rw [kg j hj]; exact hg0 j hj) k1 k2
      exact fun ρ H locs ls st h0 _ hM9 hS9 hL9 hs9 => k3 ρ H locs ls st h0 kE (memR_cl (G := (dv xs, ad, b)) g hcM hM9) hS9 (locR_cl (G := (dv xs, ad, b)) g hcL hL9) (by cases st with | nil => trivial | cons _ _ => exact hs9.elim)
  have key : W p l e roomL s m #[Value.ref b] below meth c s.heap [] 0 0 (lw_Z below #[Value.ref b] s) (entryFrame m ([Value.ref b] : List Value).toArray 9) := by
    have h0 := bk_L_law_0 (N := L) (mkX (dv xs) (runM 20) (fun r => r = ((3, 23), E0, vW 3, [], L1, M1, n1, z1)) hg0 hM (fun q E n z S L9 M hq => by cases hq; exact at23)) (j := jCut) (jcut_ok (mkX (dv xs) (runM 20) (fun r => r = ((3, 23), E0, vW 3, [], L1, M1, n1, z1)) hg0 hM (fun q E n z S L9 M hq => by cases hq; exact at23)))
    have hl := lv_entry ([.ref b]) (n := 9) (Nat.le_of_ble_eq_true rfl)
    rw [lg_entry_eq]
    refine h0 E0 0 0 _ [] M00 _ r1 (fun r hr => List.mem_singleton.mp hr) [] s.heap [] _ [] (List.prefix_refl []) (E0_ok _ (hd6 xs)) M00_ok va_S.rf ⟨hl.1, hl.2.1, rfl, fun i => ?_⟩ trivial
    rcases ini_at (9 - (flatL [vW 2]).length) [vW 2] [.ref b] 0 (show czs (dv xs, ad, b) [] [vW 2] [.ref b] from ⟨Or.inr (Or.inr (Or.inl ⟨rfl, rfl⟩)), trivial⟩) i with q | ⟨v, q1, q2⟩
    · exact Or.inl q
    · rw [Nat.zero_add] at q2
      exact Or.inr ⟨v, q1, hl.2.2 (i, v) q2⟩
  exact key T hT ⟨X.admits, X.cas, X.clock, X.frames, room_less X.room (by decide) (by decide) (by decide) (by decide), X.hears, X.method, X.code, X.here, X.tail, X.warmed, X.limits, X.bytes, X.same⟩
