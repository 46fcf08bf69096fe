/-! new cells, copies, compares of longs, floats -/
section OPN
variable {p : Program} {l : Launch} {e : Env} {R : Room} {s : State} {m : MethodId} {args : Array Value} {below : List Frame} {meth : Method} {c : Code} {Q : State → Prop} {D : va_G} {G : Gam} {A : Nat → Prop} {ρ0 : List Nat} {nL : Nat} {Pe : Res → Prop} {cc : ByteArray} {own : String} {Ts : List Cond} {pc : Nat} {K : KK}
theorem ok_new (C : Cx cc own Ts p l s m args meth c D G A nL) {call : Call} {B index ci N : Nat} {Cn : String} {T : u_T} {ty : Nat → FieldType} {fs : List AV} {vs : List Value} (hc : vwCl[ci]? = some (Cn, T, N)) (hin : ∀ w ∈ u_ws Cn T N, w ∈ Ts) (hty : ∀ k, k < N → parseFieldDescriptor (T k).2.2.1 = some (ty k)) (hcl : Cond.classLink own index Cn ∈ Ts) (hinst : Cond.instantiable Cn N ∈ Ts) (hini : Cond.initialized Cn ∈ Ts)
    (hfs : ∀ j, j < N → defaultValue (ty j) = vp_V vs j) (hcz : ∀ ρ, czs G ρ fs vs) (hB : R.cells = B ∧ R.slots = B) (hdg : decode cc pc = .ok (.new index, 3)) (hK : KOK p l e R s m args below meth c Q D G A ρ0 nL Pe (pc + 3) K) : KOK p l e R s m args below meth c Q D G A ρ0 nL Pe pc (op_new B N (cO ci fs) call K) := by
  intro E n z L S M rs h he ρ H locs ls st h0 hE hM hS hL hs
  obtain ⟨h1, h2⟩ := gd_some (show gd (Nat.ble (n + 1) 512) (gd (Nat.ble (z + N + 1) B) (fN (n + 1) fun n' => fN (z + N + 1) fun z' => K E n' z' L (vR n :: S) (tset 9 M n (cO ci fs)))) = some rs from h)
  obtain ⟨h3, h4⟩ := gd_some h2
  rw [fN_eq, fN_eq] at h4
  have h1 := Nat.le_of_ble_eq_true h1
  have h3 := Nat.le_of_ble_eq_true h3
  obtain ⟨ws, w1, w2, w3, w4, w5, w6⟩ := hM
  refine va_new (ws := ws) C.1 C.2.1 C.2.2.2.2.1 hin ty hty C.2.2.2.1 (C.2.2.2.2.1 _ hcl) (C.2.2.2.2.1 _ hinst) (C.2.2.2.2.1 _ hini) C.2.2.2.2.2.1 w5 w6 hS C.2.2.2.2.2.2 hc hfs (by omega) (by omega) hdg (fun q H1 r1 r2 r3 => ?_)
  refine W.widen (k := z + N + 1) (n := z + N + 1) (by omega) (by omega) ?_
  have hp : ρ <+: ρ ++ [q] := List.prefix_append _ _
  exact hK E _ _ L _ _ rs h4 he (ρ ++ [q]) H1 locs ls _ (h0.trans hp) hE (mem_new w1 w2 h1 w4 r1 r2 ⟨vs, rfl, hcz _⟩) r3 (locR_mono hp hL) ⟨⟨q, by rw [List.getElem?_append_right (by omega), w2]; simp, rfl⟩, czs_mono hp hs⟩
theorem rep_len (v : AV) : ∀ N, (repA v N).length = N := by
  intro N
  induction N with
  | zero => rfl
  | succ N ih => show (v :: repA v N).length = _; rw [List.length_cons, ih]
theorem rep_nth (v : AV) : ∀ N j, j < N → nth (repA v N) j = v := by
  intro N
  induction N with
  | zero => intro j h; omega
  | succ N ih =>
    intro j h
    cases j with
    | zero => rfl
    | succ j => exact ih j (by omega)
theorem aget_0 (j : Nat) : aget 0 [] j = vI 0 := by
  show vI (pget 0 j) = vI 0
  unfold pget
  simp
theorem hby {N : Nat} {ty : FieldType} (h : N ≤ 100000) (h8 : componentBytes ty ≤ 8) : N * componentBytes ty ≤ 536870912 := by
  have := Nat.mul_le_mul h h8
  omega
theorem newa_of (C : Cx cc own Ts p l s m args meth c D G A nL) {B N n z : Nat} {L S : List AV} {M : Mem} {f : Nat → Cel} {call : Call} {E : Env9} {rs : List Res} (h : op_newa B f call K E n z L (vI N :: S) M = some rs) : N ≤ 100000 ∧ n + 1 ≤ 512 ∧ z + N + 1 ≤ B ∧ K E (n + 1) (z + N + 1) L (vR n :: S) (tset 9 M n (f N)) = some rs := by
  obtain ⟨h1, h2⟩ := gd_some (show gd (Nat.ble N 100000) (gd (Nat.ble (n + 1) 512) (gd (Nat.ble (z + N + 1) B) (fN (n + 1) fun n' => fN (z + N + 1) fun z' => K E n' z' L (vR n :: S) (tset 9 M n (f N))))) = some rs from h)
  obtain ⟨h3, h4⟩ := gd_some h2
  obtain ⟨h5, h6⟩ := gd_some h4
  rw [fN_eq, fN_eq] at h6
  exact ⟨Nat.le_of_ble_eq_true h1, Nat.le_of_ble_eq_true h3, Nat.le_of_ble_eq_true h5, h6⟩
theorem nneg {N : Nat} (h : N ≤ 100000) : ¬ nI N < 0 := nI_pos (by omega)
theorem ok_newI (C : Cx cc own Ts p l s m args meth c D G A nL) {call : Call} {B : Nat} (harr : Cond.arrayClass .int ∈ Ts) (hB : R.cells = B ∧ R.slots = B) (hdg : decode cc pc = .ok (.newarray .int, 2)) (hK : KOK p l e R s m args below meth c Q D G A ρ0 nL Pe (pc + 2) K) : KOK p l e R s m args below meth c Q D G A ρ0 nL Pe pc (op_newa B (fun N => cI 0 N 0 []) call K) := by
  intro E n z L S M rs h he ρ H locs ls st h0 hE hM hS hL hs
  rcases S with _ | ⟨a, S⟩
  · cases h
  obtain ⟨u, st, rfl, hu, hs'⟩ := czs_cons hs
  rcases a with N | a | x | o | i | w | k | k
  · obtain ⟨hN, h1, h3, h4⟩ := newa_of C h
    have hu' : u = .int (nI N) := hu
    subst hu'
    obtain ⟨ws, w1, w2, w3, w4, w5, w6⟩ := hM
    refine va_newa (ws := ws) (atype := .int) (ty := .int) (a0 := (N, .inl (fun _ => 0))) C.1 C.2.1 (C.2.2.2.2.1 _ harr) rfl C.2.2.2.2.2.1 w5 w6 hS C.2.2.2.2.2.2 (N' := N) (fun _ => rfl) (nneg hN) (nI_clamp (by omega)) (hby hN (show componentBytes .int ≤ 8 by decide)) (by omega) (by omega) hdg (fun q cA H1 r0 r1 r2 r3 => ?_)
    refine W.widen (k := z + N + 1) (n := z + N + 1) (by omega) (by omega) ?_
    have hp : ρ <+: ρ ++ [q] := List.prefix_append _ _
    exact hK E _ _ L _ _ rs h4 he (ρ ++ [q]) H1 locs ls _ (h0.trans hp) hE (mem_new w1 w2 h1 w4 r1 r2 ⟨cA, fun _ => 0, rfl, r0.2 0 _ rfl, hN, by show 0 ≤ 2; omega, fun j _ => by show cz G _ (aget 0 [] j) _; rw [aget_0]; exact rfl⟩) r3 (locR_mono hp hL) ⟨⟨q, by rw [List.getElem?_append_right (by omega), w2]; simp, rfl⟩, czs_mono hp hs'⟩
  all_goals cases h
theorem ok_newB (C : Cx cc own Ts p l s m args meth c D G A nL) {call : Call} {B : Nat} (harr : Cond.arrayClass .byte ∈ Ts) (hB : R.cells = B ∧ R.slots = B) (hdg : decode cc pc = .ok (.newarray .byte, 2)) (hK : KOK p l e R s m args below meth c Q D G A ρ0 nL Pe (pc + 2) K) : KOK p l e R s m args below meth c Q D G A ρ0 nL Pe pc (op_newa B (fun N => cI 1 N 0 []) call K) := by
  intro E n z L S M rs h he ρ H locs ls st h0 hE hM hS hL hs
  rcases S with _ | ⟨a, S⟩
  · cases h
  obtain ⟨u, st, rfl, hu, hs'⟩ := czs_cons hs
  rcases a with N | a | x | o | i | w | k | k
  · obtain ⟨hN, h1, h3, h4⟩ := newa_of C h
    have hu' : u = .int (nI N) := hu
    subst hu'
    obtain ⟨ws, w1, w2, w3, w4, w5, w6⟩ := hM
    refine va_newa (ws := ws) (atype := .byte) (ty := .byte) (a0 := (N, .inl (fun _ => 0))) C.1 C.2.1 (C.2.2.2.2.1 _ harr) rfl C.2.2.2.2.2.1 w5 w6 hS C.2.2.2.2.2.2 (N' := N) (fun _ => rfl) (nneg hN) (nI_clamp (by omega)) (hby hN (show componentBytes .byte ≤ 8 by decide)) (by omega) (by omega) hdg (fun q cA H1 r0 r1 r2 r3 => ?_)
    refine W.widen (k := z + N + 1) (n := z + N + 1) (by omega) (by omega) ?_
    have hp : ρ <+: ρ ++ [q] := List.prefix_append _ _
    exact hK E _ _ L _ _ rs h4 he (ρ ++ [q]) H1 locs ls _ (h0.trans hp) hE (mem_new w1 w2 h1 w4 r1 r2 ⟨cA, fun _ => 0, rfl, r0.2 0 _ rfl, hN, by show 1 ≤ 2; omega, fun j _ => by show cz G _ (aget 0 [] j) _; rw [aget_0]; exact rfl⟩) r3 (locR_mono hp hL) ⟨⟨q, by rw [List.getElem?_append_right (by omega), w2]; simp, rfl⟩, czs_mono hp hs'⟩
  all_goals cases h
theorem ok_newZ (C : Cx cc own Ts p l s m args meth c D G A nL) {call : Call} {B : Nat} (harr : Cond.arrayClass .boolean ∈ Ts) (hB : R.cells = B ∧ R.slots = B) (hdg : decode cc pc = .ok (.newarray .boolean, 2)) (hK : KOK p l e R s m args below meth c Q D G A ρ0 nL Pe (pc + 2) K) : KOK p l e R s m args below meth c Q D G A ρ0 nL Pe pc (op_newa B (fun N => cI 2 N 0 []) call K) := by
  intro E n z L S M rs h he ρ H locs ls st h0 hE hM hS hL hs
  rcases S with _ | ⟨a, S⟩
  · cases h
  obtain ⟨u, st, rfl, hu, hs'⟩ := czs_cons hs
  rcases a with N | a | x | o | i | w | k | k
  · obtain ⟨hN, h1, h3, h4⟩ := newa_of C h
    have hu' : u = .int (nI N) := hu
    subst hu'
    obtain ⟨ws, w1, w2, w3, w4, w5, w6⟩ := hM
    refine va_newa (ws := ws) (atype := .boolean) (ty := .boolean) (a0 := (N, .inl (fun _ => 0))) C.1 C.2.1 (C.2.2.2.2.1 _ harr) rfl C.2.2.2.2.2.1 w5 w6 hS C.2.2.2.2.2.2 (N' := N) (fun _ => rfl) (nneg hN) (nI_clamp (by omega)) (hby hN (show componentBytes .boolean ≤ 8 by decide)) (by omega) (by omega) hdg (fun q cA H1 r0 r1 r2 r3 => ?_)
    refine W.widen (k := z + N + 1) (n := z + N + 1) (by omega) (by omega) ?_
    have hp : ρ <+: ρ ++ [q] := List.prefix_append _ _
    exact hK E _ _ L _ _ rs h4 he (ρ ++ [q]) H1 locs ls _ (h0.trans hp) hE (mem_new w1 w2 h1 w4 r1 r2 ⟨cA, fun _ => 0, rfl, r0.2 0 _ rfl, hN, by show 2 ≤ 2; omega, fun j _ => by show cz G _ (aget 0 [] j) _; rw [aget_0]; exact rfl⟩) r3 (locR_mono hp hL) ⟨⟨q, by rw [List.getElem?_append_right (by omega), w2]; simp, rfl⟩, czs_mono hp hs'⟩
  all_goals cases h
theorem ok_newL (C : Cx cc own Ts p l s m args meth c D G A nL) {call : Call} {B : Nat} (harr : Cond.arrayClass .long ∈ Ts) (hB : R.cells = B ∧ R.slots = B) (hdg : decode cc pc = .ok (.newarray .long, 2)) (hK : KOK p l e R s m args below meth c Q D G A ρ0 nL Pe (pc + 2) K) : KOK p l e R s m args below meth c Q D G A ρ0 nL Pe pc (op_newa B (fun N => cL (repA (vJ 0) N)) call K) := by
  intro E n z L S M rs h he ρ H locs ls st h0 hE hM hS hL hs
  rcases S with _ | ⟨a, S⟩
  · cases h
  obtain ⟨u, st, rfl, hu, hs'⟩ := czs_cons hs
  rcases a with N | a | x | o | i | w | k | k
  · obtain ⟨hN, h1, h3, h4⟩ := newa_of C h
    have hu' : u = .int (nI N) := hu
    subst hu'
    obtain ⟨ws, w1, w2, w3, w4, w5, w6⟩ := hM
    refine va_newa (ws := ws) (atype := .long) (ty := .long) (a0 := (N, .inr (.inl (fun _ => 0)))) C.1 C.2.1 (C.2.2.2.2.1 _ harr) rfl C.2.2.2.2.2.1 w5 w6 hS C.2.2.2.2.2.2 (N' := N) (fun _ => rfl) (nneg hN) (nI_clamp (by omega)) (hby hN (show componentBytes .long ≤ 8 by decide)) (by omega) (by omega) hdg (fun q cA H1 r0 r1 r2 r3 => ?_)
    refine W.widen (k := z + N + 1) (n := z + N + 1) (by omega) (by omega) ?_
    have hp : ρ <+: ρ ++ [q] := List.prefix_append _ _
    exact hK E _ _ L _ _ rs h4 he (ρ ++ [q]) H1 locs ls _ (h0.trans hp) hE (mem_new w1 w2 h1 w4 r1 r2 ⟨cA, fun _ => 0, by rw [rep_len], r0.2 0 _ rfl, by rw [rep_len]; exact hN, fun j hj => by rw [rep_len] at hj; rw [rep_nth _ _ _ hj]; exact rfl⟩) r3 (locR_mono hp hL) ⟨⟨q, by rw [List.getElem?_append_right (by omega), w2]; simp, rfl⟩, czs_mono hp hs'⟩
  all_goals cases h
theorem ok_anew (C : Cx cc own Ts p l s m args meth c D G A nL) {call : Call} {B index ci : Nat} {r : vw_C} (hc : vwCl[ci]? = some r) (hcl : Cond.classLink own index r.1 ∈ Ts) (hov : va_AO r.1 s) (hB : R.cells = B ∧ R.slots = B) (hdg : decode cc pc = .ok (.anewarray index, 3)) (hK : KOK p l e R s m args below meth c Q D G A ρ0 nL Pe (pc + 3) K) : KOK p l e R s m args below meth c Q D G A ρ0 nL Pe pc (op_newa B (fun N => cQ ci (repA (vW 0) N)) call K) := by
  intro E n z L S M rs h he ρ H locs ls st h0 hE hM hS hL hs
  rcases S with _ | ⟨a, S⟩
  · cases h
  obtain ⟨u, st, rfl, hu, hs'⟩ := czs_cons hs
  rcases a with N | a | x | o | i | w | k | k
  · obtain ⟨hN, h1, h3, h4⟩ := newa_of C h
    have hu' : u = .int (nI N) := hu
    subst hu'
    obtain ⟨ws, w1, w2, w3, w4, w5, w6⟩ := hM
    refine va_newq (ws := ws) C.1 C.2.1 C.2.2.2.1 (C.2.2.2.2.1 _ hcl) hov C.2.2.2.2.2.1 w5 w6 hS C.2.2.2.2.2.2 (N' := N) (nneg hN) (nI_clamp (by omega)) (by omega) (by omega) (by omega) hdg (fun q cA H1 r0 r1 r2 r3 => ?_)
    refine W.widen (k := z + N + 1) (n := z + N + 1) (by omega) (by omega) ?_
    have hp : ρ <+: ρ ++ [q] := List.prefix_append _ _
    exact hK E _ _ L _ _ rs h4 he (ρ ++ [q]) H1 locs ls _ (h0.trans hp) hE (mem_new w1 w2 h1 w4 r1 r2 (Or.inr ⟨cA, fun _ => none, r, congrArg (fun n => Sum.inl (cA, n, Sum.inr (Sum.inr (Sum.inr (Sum.inr fun _ => none))))) (rep_len (vW 0) N).symm, hc, r0.2 0 _ rfl, by show (repA _ N).length ≤ _; rw [rep_len]; exact hN, fun j hj => by have hj' : j < (repA (vW 0) N).length := hj; rw [rep_len] at hj'; show cz G _ (nth (repA (vW 0) N) j) _; rw [rep_nth _ _ _ hj']; exact Or.inl ⟨rfl, rfl⟩⟩)) r3 (locR_mono hp hL) ⟨⟨q, by rw [List.getElem?_append_right (by omega), w2]; simp, rfl⟩, czs_mono hp hs'⟩
  all_goals cases h
theorem pcpy_get (p q sp dp : Nat) : ∀ N k, pget (pcpy p q sp dp N) k = if dp ≤ k ∧ k < dp + N then pget p (sp + (k - dp)) else pget q k := by
  intro N
  induction N with
  | zero => intro k; rw [if_neg (by omega)]; rfl
  | succ N ih =>
    intro k
    show pget (pset (pcpy p q sp dp N) (dp + N) (pget p (sp + N))) k = _
    rw [pget_pset]
    by_cases hk : k = dp + N
    · rw [if_pos hk, if_pos (by omega)]
      have e : k - dp = N := by omega
      rw [e]
      unfold pget
      exact Nat.mod_mod _ _
    · rw [if_neg hk, ih]
      by_cases hk2 : dp ≤ k ∧ k < dp + N
      · rw [if_pos hk2, if_pos (by omega)]
      · rw [if_neg hk2, if_neg (by omega)]
theorem ok_copy (C : Cx cc own Ts p l s m args meth c D G A nL) {call : Call} {index : Nat} (hlink : (Cond.methodLink own index arraycopyName).before args s = true) (hnat : (Cond.native arraycopyName).before args s = true) (hstat : (Cond.static arraycopyName).before args s = true) (hini : (Cond.initialized "java/lang/System").before args s = true) (hfr : 1 ≤ R.frames) (hlo : 8 + (nativeFrameWords "java/lang/System" "arraycopy" 5 + 11) ≤ R.locals) (hdg : decode cc pc = .ok (.invokestatic index, 3)) (hK : KOK p l e R s m args below meth c Q D G A ρ0 nL Pe (pc + 3) K) : KOK p l e R s m args below meth c Q D G A ρ0 nL Pe pc (op_copy call K) := by
  intro E n z L S M rs h he ρ H locs ls st h0 hE hM hS hL hs
  unfold op_copy at h
  split at h
  · rename_i N dp b sp a S'
    obtain ⟨v5, st5, rfl, hv5, hs5⟩ := czs_cons hs
    obtain ⟨v4, st4, rfl, hv4, hs4⟩ := czs_cons hs5
    obtain ⟨v3, st3, rfl, hv3, hs3⟩ := czs_cons hs4
    obtain ⟨v2, st2, rfl, hv2, hs2⟩ := czs_cons hs3
    obtain ⟨v1, st1, rfl, hv1, hs1⟩ := czs_cons hs2
    obtain ⟨qb, hqb, rfl⟩ := hv3
    obtain ⟨qa, hqa, rfl⟩ := hv1
    have e5 : v5 = .int (nI N) := hv5
    have e4 : v4 = .int (nI dp) := hv4
    have e2 : v2 = .int (nI sp) := hv2
    subst e5; subst e4; subst e2
    obtain ⟨ws, e0, g1, g2, g3, g4, g5, g6⟩ := mem_at hM hqb
    obtain ⟨ea, f1, f2⟩ := g6 a qa hqa
    rcases hca : tget 9 M a with o | u | o | o
    · simp only [hca] at h; cases h
    · rcases hcb : tget 9 M b with o | w | o | o
      · simp only [hca, hcb] at h; cases h
      · rw [hcb] at g2
        rw [hca] at f2
        simp only [hca, hcb] at h
        obtain ⟨h1, h⟩ := gd_some h
        obtain ⟨h2, h⟩ := gd_some h
        obtain ⟨h3, h⟩ := gd_some h
        obtain ⟨h4, h⟩ := gd_some h
        split at h
        · rename_i hua hwb
          obtain ⟨h9, h⟩ := gd_some h
          obtain ⟨h5, h⟩ := gd_some h
          rw [fN_eq] at h
          obtain ⟨cA, f, rfl, hty, hN, ht2, hf⟩ := g2
          obtain ⟨cB, g, rfl, hty2, hN2, ht22, hg⟩ := f2
          rw [Nat.eq_of_beq_eq_true h1] at hty2
          rw [Nat.eq_of_beq_eq_true h2] at hty
          have h3 := Nat.le_of_ble_eq_true h3
          have h4 := Nat.le_of_ble_eq_true h4
          have h5 := Nat.le_of_ble_eq_true h5
          have c1 : (nI sp).toNatClampNeg = sp := nI_clamp (by omega)
          have c2 : (nI dp).toNatClampNeg = dp := nI_clamp (by omega)
          have c3 : (nI N).toNatClampNeg = N := nI_clamp (by omega)
          refine va_copyi C.1 C.2.1 (C.2.2.1.trans hL.1.symm) C.2.2.2.1 hlink hnat hstat hini (K2 C.2.2.2.2.2.1 hty2 hty) g3 g4 hS a b 0 1 f1 g1 rfl rfl rfl (nI_pos (by omega)) (nI_pos (by omega)) (nI_pos (by omega)) (by rw [c1, c3]; exact h3) (by rw [c2, c3]; exact h4) (fun _ _ => rfl) hfr (by have := czs_cat hs1; have := Nat.le_of_ble_eq_true h9; omega) hdg (fun H1 locs1 r1 r2 r3 => ?_)
          rw [c1, c2, c3] at r1 r2
          refine hK E n z L _ _ rs h he ρ H1 locs1 ls _ h0 hE (g5 H1 _ _ r1 r2 ⟨cA, _, rfl, hty, hN, by show 0 ≤ 2; omega, fun k hk => ?_⟩) r3 hL hs1
          show cz G ρ (vI (pget (pcpy u.2.2.1 w.2.2.1 sp dp N) k)) (.int (va_cpy g f sp dp N k))
          rw [pcpy_get]
          unfold va_cpy
          by_cases hk2 : dp ≤ k ∧ k < dp + N
          · rw [if_pos hk2, if_pos hk2]
            have := hg (sp + (k - dp)) (by omega)
            rw [hua] at this
            exact this
          · rw [if_neg hk2, if_neg hk2]
            have := hf k hk
            rw [hwb] at this
            exact this
        · cases h
      · simp only [hca, hcb] at h; cases h
      · simp only [hca, hcb] at h; cases h
    · simp only [hca] at h; cases h
    · simp only [hca] at h; cases h
  · cases h
theorem ok_lcmp (C : Cx cc own Ts p l s m args meth c D G A nL) {call : Call} (hdg : decode cc pc = .ok (.lcmp, 1)) (hK : KOK p l e R s m args below meth c Q D G A ρ0 nL Pe (pc + 1) K) : KOK p l e R s m args below meth c Q D G A ρ0 nL Pe pc (op_lcmp call K) := by
  intro E n z L S M rs h he ρ H locs ls st h0 hE hM hS hL hs
  rcases S with _ | ⟨b, _ | ⟨a, S⟩⟩
  · cases h
  · rcases b with x | b | x | o | j | w | k | k <;> cases h
  obtain ⟨v, st1, rfl, hv, hs1⟩ := czs_cons hs
  obtain ⟨u, st, rfl, hu, hs'⟩ := czs_cons hs1
  rcases b with y | y | y | o | i | w | k | k
  · rcases a with x | a | x | o | i | w | k | k <;> cases h
  · rcases a with x | a | x | o | i | w | k | k <;> cases h
  · have hv' : v = .long (lN y) := hv
    subst hv'
    rcases a with x | a | x | o | i | w | k | k
    · cases h
    · cases h
    · have h' : fN (toN (lg_cmp (lN x) (lN y))) (fun r => K E n z L (vI r :: S) M) = some rs := h
      rw [fN_eq] at h'
      have hu' : u = .long (lN x) := hu
      subst hu'
      exact W.lcmp C.1 C.2.1 hdg (hK E n z L _ M rs h' he ρ H locs ls _ h0 hE hM hS hL ⟨(by show Value.int _ = .int (nI (toN _)); rw [nI_toN]), hs'⟩)
    · cases h
    · have h' : fN (y % 4294967296) (fun w => gd (Nat.ble (i + 1) 16) (gd (Nat.beq (toNL (nI w).toInt64) y) (fork3 E i (bi w) (fun E => K E n z L (vI 4294967295 :: S) M) (fun E => K E n z L (vI 0 :: S) M) (fun E => K E n z L (vI 1 :: S) M)))) = some rs := h
      rw [fN_eq] at h'
      obtain ⟨h16, h'⟩ := gd_some h'
      obtain ⟨h1, h2⟩ := gd_some h'
      have h17 := Nat.le_of_ble_eq_true h16
      have hu' : u = .long (G.1 i).toInt64 := by
        have hu0 : u = .long (G.1 (i % 16) + nI (i / 16)).toInt64 := hu
        rw [show i % 16 = i by omega, show i / 16 = 0 by omega] at hu0
        have e0 : G.1 i + nI 0 = G.1 i := by show G.1 i + 0 = G.1 i; simp
        rw [e0] at hu0
        exact hu0
      subst hu'
      have hy : lN y = (nI (y % 4294967296)).toInt64 := by
        rw [← Nat.eq_of_beq_eq_true h1, lN_toN]
        rw [Nat.eq_of_beq_eq_true h1]
      obtain ⟨f1, f2, f3⟩ := fork3_ok h2 hE
      rw [hy]
      refine W.lcmp C.1 C.2.1 hdg ?_
      rw [lg_cmp_i2l]
      have fin : ∀ (r : Nat) (t : tak G rs (fun E => K E n z L (vI r :: S) M)), W p l e R s m args below meth c H locs z z Q (F0 m (pc + 1) ls (.int (nI r) :: st)) := by
        intro r t
        obtain ⟨E', rs', k1, k2, k3⟩ := t
        exact hK E' n z L _ M rs' k1 (fun q hq => he q (k2 q hq)) ρ H locs ls _ h0 k3 hM hS hL ⟨rfl, hs'⟩
      have hx : G.1 i = nI (toN (G.1 i)) := (nI_toN _).symm
      by_cases q1 : nI (y % 4294967296) < G.1 i
      · rw [if_pos q1]
        exact fin 1 (f3 (by rw [hx] at q1; exact (nI_lt_iff _ _).mp q1))
      · rw [if_neg q1]
        by_cases q2 : G.1 i = nI (y % 4294967296)
        · rw [if_pos q2]
          exact fin 0 (f2 (bi_bi q2))
        · rw [if_neg q2]
          have q3 : G.1 i < nI (y % 4294967296) := by
            rcases i32_tri (G.1 i) (nI (y % 4294967296)) with t | t | t
            · exact t
            · exact absurd t q2
            · exact absurd t q1
          exact fin 4294967295 (f1 (by rw [hx] at q3; exact (nI_lt_iff _ _).mp q3))
    all_goals cases h
  · rcases a with x | a | x | o | i | w | k | k <;> cases h
  · rcases a with x | a | x | o | i9 | w | k | k
    · cases h
    · cases h
    · cases h
    · cases h
    · obtain ⟨h1, h2⟩ := gd_some (show gd (Nat.beq i9 i) (K E n z L (vI 0 :: S) M) = some rs from h)
      have e9 := Nat.eq_of_beq_eq_true h1
      subst e9
      have hu' : u = .long (G.1 (i9 % 16) + nI (i9 / 16)).toInt64 := hu
      have hv' : v = .long (G.1 (i9 % 16) + nI (i9 / 16)).toInt64 := hv
      subst hu'; subst hv'
      refine W.lcmp C.1 C.2.1 hdg ?_
      rw [lg_cmp_i2l, if_neg (Int32.lt_irrefl), if_pos rfl]
      exact hK E n z L _ M rs h2 he ρ H locs ls _ h0 hE hM hS hL ⟨rfl, hs'⟩
    · cases h
    · cases h
    · cases h
  all_goals (rcases a with x | a | x | o | i | w | k | k <;> cases h)
theorem u64_n (x : UInt64) : UInt64.ofNat x.toNat = x := by simp
theorem u32_n (x : UInt32) : UInt32.ofNat x.toNat = x := by simp
theorem n64_of {r : UInt64} (h : Nat.ble ((r &&& 0x7fffffffffffffff).toNat) 9218868437227405312 = true) : vf_n64 r := by
  show r &&& 0x7fffffffffffffff ≤ 0x7ff0000000000000
  rw [UInt64.le_iff_toNat_le]
  exact Nat.le_of_ble_eq_true h
theorem n32_of {r : UInt32} (h : Nat.ble ((r &&& 0x7fffffff).toNat) 2139095040 = true) : vf_n32 r := by
  show r &&& 0x7fffffff ≤ 0x7f800000
  rw [UInt32.le_iff_toNat_le]
  exact Nat.le_of_ble_eq_true h
theorem ok_i2d (C : Cx cc own Ts p l s m args meth c D G A nL) {call : Call} (hdg : decode cc pc = .ok (.i2d, 1)) (hK : KOK p l e R s m args below meth c Q D G A ρ0 nL Pe (pc + 1) K) : KOK p l e R s m args below meth c Q D G A ρ0 nL Pe pc (op_i2d call K) := by
  intro E n z L S M rs h he ρ H locs ls st h0 hE hM hS hL hs
  unfold op_i2d at h
  split at h
  · obtain ⟨u, st, rfl, hu, hs'⟩ := czs_cons hs
    have hu' : u = .int (nI _) := hu
    subst hu'
    exact lv_i2d C.1 C.2.1 hdg (hK E n z L _ M rs h he ρ H locs ls _ h0 hE hM hS hL ⟨by show Value.double _ = .double (UInt64.ofNat _); rw [u64_n], hs'⟩)
  · cases h
theorem ok_i2f (C : Cx cc own Ts p l s m args meth c D G A nL) {call : Call} (hdg : decode cc pc = .ok (.i2f, 1)) (hK : KOK p l e R s m args below meth c Q D G A ρ0 nL Pe (pc + 1) K) : KOK p l e R s m args below meth c Q D G A ρ0 nL Pe pc (op_i2f call K) := by
  intro E n z L S M rs h he ρ H locs ls st h0 hE hM hS hL hs
  unfold op_i2f at h
  split at h
  · obtain ⟨u, st, rfl, hu, hs'⟩ := czs_cons hs
    have hu' : u = .int (nI _) := hu
    subst hu'
    exact lv_i2f C.1 C.2.1 hdg (hK E n z L _ M rs h he ρ H locs ls _ h0 hE hM hS hL ⟨by show Value.float _ = .float (UInt32.ofNat _); rw [u32_n], hs'⟩)
  · cases h
theorem ok_f2d (C : Cx cc own Ts p l s m args meth c D G A nL) {call : Call} (hdg : decode cc pc = .ok (.f2d, 1)) (hK : KOK p l e R s m args below meth c Q D G A ρ0 nL Pe (pc + 1) K) : KOK p l e R s m args below meth c Q D G A ρ0 nL Pe pc (op_f2d call K) := by
  intro E n z L S M rs h he ρ H locs ls st h0 hE hM hS hL hs
  unfold op_f2d at h
  split at h
  · obtain ⟨u, st, rfl, hu, hs'⟩ := czs_cons hs
    obtain ⟨h1, h2⟩ := gd_some h
    have hu' : u = .float (UInt32.ofNat _) := hu
    subst hu'
    exact lv_f2d C.1 C.2.1 hdg (n64_of h1) (hK E n z L _ M rs h2 he ρ H locs ls _ h0 hE hM hS hL ⟨by show Value.double _ = .double (UInt64.ofNat _); rw [u64_n], hs'⟩)
  · cases h
theorem ok_ddiv (C : Cx cc own Ts p l s m args meth c D G A nL) {call : Call} (hdg : decode cc pc = .ok (.ddiv, 1)) (hK : KOK p l e R s m args below meth c Q D G A ρ0 nL Pe (pc + 1) K) : KOK p l e R s m args below meth c Q D G A ρ0 nL Pe pc (op_ddiv call K) := by
  intro E n z L S M rs h he ρ H locs ls st h0 hE hM hS hL hs
  unfold op_ddiv at h
  split at h
  · obtain ⟨v, st1, rfl, hv, hs1⟩ := czs_cons hs
    obtain ⟨u, st, rfl, hu, hs'⟩ := czs_cons hs1
    obtain ⟨h1, h2⟩ := gd_some h
    have hu' : u = .double (UInt64.ofNat _) := hu
    have hv' : v = .double (UInt64.ofNat _) := hv
    subst hu'; subst hv'
    exact lv_ddiv C.1 C.2.1 hdg (n64_of h1) (hK E n z L _ M rs h2 he ρ H locs ls _ h0 hE hM hS hL ⟨by show Value.double _ = .double (UInt64.ofNat _); rw [u64_n], hs'⟩)
  · cases h
theorem ok_fdiv (C : Cx cc own Ts p l s m args meth c D G A nL) {call : Call} (hdg : decode cc pc = .ok (.fdiv, 1)) (hK : KOK p l e R s m args below meth c Q D G A ρ0 nL Pe (pc + 1) K) : KOK p l e R s m args below meth c Q D G A ρ0 nL Pe pc (op_fdiv call K) := by
  intro E n z L S M rs h he ρ H locs ls st h0 hE hM hS hL hs
  unfold op_fdiv at h
  split at h
  · obtain ⟨v, st1, rfl, hv, hs1⟩ := czs_cons hs
    obtain ⟨u, st, rfl, hu, hs'⟩ := czs_cons hs1
    obtain ⟨h1, h2⟩ := gd_some h
    have hu' : u = .float (UInt32.ofNat _) := hu
    have hv' : v = .float (UInt32.ofNat _) := hv
    subst hu'; subst hv'
    exact lv_fdiv C.1 C.2.1 hdg (n32_of h1) (hK E n z L _ M rs h2 he ρ H locs ls _ h0 hE hM hS hL ⟨by show Value.float _ = .float (UInt32.ofNat _); rw [u32_n], hs'⟩)
  · cases h
theorem ok_dcmp (C : Cx cc own Ts p l s m args meth c D G A nL) {call : Call} {o : CmpOp} (hdg : decode cc pc = .ok (.dcmp o, 1)) (hK : KOK p l e R s m args below meth c Q D G A ρ0 nL Pe (pc + 1) K) : KOK p l e R s m args below meth c Q D G A ρ0 nL Pe pc (op_dcmp o call K) := by
  intro E n z L S M rs h he ρ H locs ls st h0 hE hM hS hL hs
  unfold op_dcmp at h
  split at h
  · obtain ⟨v, st1, rfl, hv, hs1⟩ := czs_cons hs
    obtain ⟨u, st, rfl, hu, hs'⟩ := czs_cons hs1
    rw [fN_eq] at h
    have hu' : u = .double (UInt64.ofNat _) := hu
    have hv' : v = .double (UInt64.ofNat _) := hv
    subst hu'; subst hv'
    exact lv_dcmp C.1 C.2.1 hdg (hK E n z L _ M rs h he ρ H locs ls _ h0 hE hM hS hL ⟨by show Value.int _ = .int (nI (toN _)); rw [nI_toN], hs'⟩)
  · cases h
end OPN
