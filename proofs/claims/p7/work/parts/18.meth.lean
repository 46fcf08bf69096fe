/-! further ends, throws, caught calls, a method's contract -/
section ENDS9
variable {p : Program} {l : Launch} {e : Env} {R : Room} {s : State} {m : MethodId} {args : Array Value} {below : List Frame} {meth : Method} {c : Code} {Q : State → Prop} {D : va_G} {G : Gam} {A : Nat → Prop} {ρ0 : List Nat} {nL : Nat} {Pe : Res → Prop} {cc : ByteArray} {own : String} {Ts : List Cond} {pc : Nat} {K : KK} {call : Call} {RS : List Res}

theorem ok_vret (C : Cx cc own Ts p l s m args meth c D G A nL) {B : Nat} (hQ : Q = vx_MQ below (QcOf D G A ρ0 RS) (XCOf D G A ρ0 RS) args s B B A) (hPe : ∀ r, Pe r → r ∈ RS) (hlocks : meth.locks = false) (hr : meth.sig.returnType = none) (hdg : decode cc pc = .ok (.return_, 1)) {j : Jmp} : KOK p l e R s m args below meth c Q D G A ρ0 nL Pe pc (tm_vret B call j) := by
  intro E n z L S M rs h he ρ H locs ls st h0 hE hM hS hL hs
  rcases S with _ | ⟨a, S⟩
  · rcases st with _ | ⟨w, st⟩
    · obtain ⟨h3, h4⟩ := gd_some (show gd (Nat.ble z B) (some [((1, 0), E, vW 3, [], [], M, n, z)]) = some rs from h)
      cases h4
      have hz := Nat.le_of_ble_eq_true h3
      subst hQ
      exact W.widen hz hz (vx_ret (W.vret C.1 C.2.1 hr (fun t ht hW => ⟨⟨_, hPe _ (he _ List.mem_cons_self), _, ρ, rfl, Or.inr ⟨rfl, rfl⟩, h0, hE, by rw [ht]; exact memR_moved hW.alike hM⟩, hS.F ht⟩) hS.2.2 hdg hlocks))
    · exact hs.elim
  · cases h
theorem ok_lret (C : Cx cc own Ts p l s m args meth c D G A nL) {B : Nat} (hQ : Q = vx_MQ below (QcOf D G A ρ0 RS) (XCOf D G A ρ0 RS) args s B B A) (hPe : ∀ r, Pe r → r ∈ RS) (hlocks : meth.locks = false) (hr : meth.sig.returnType = some .long) (hdg : decode cc pc = .ok (.lreturn, 1)) {j : Jmp} : KOK p l e R s m args below meth c Q D G A ρ0 nL Pe pc (tm_ret isJ B call j) := by
  intro E n z L S M rs h he ρ H locs ls st h0 hE hM hS hL hs
  rcases S with _ | ⟨a, S⟩
  · cases h
  obtain ⟨u, st, rfl, hu, hs'⟩ := czs_cons hs
  rcases S with _ | ⟨b, S⟩
  · rcases st with _ | ⟨w, st⟩
    · obtain ⟨h1, h2⟩ := gd_some (show gd (isJ a) (gd (Nat.ble z B) (some [((0, 0), E, a, [], [], M, n, z)])) = some rs from h)
      obtain ⟨h3, h4⟩ := gd_some h2
      cases h4
      have hz := Nat.le_of_ble_eq_true h3
      obtain ⟨x, rfl⟩ := cz_isJ hu h1
      subst hQ
      exact W.widen hz hz (vx_ret (W.lret C.1 C.2.1 hr (fun t ht hW => ⟨⟨_, hPe _ (he _ List.mem_cons_self), _, ρ, rfl, Or.inl ⟨rfl, _, rfl, hu⟩, h0, hE, by rw [ht]; exact memR_moved hW.alike hM⟩, hS.F ht⟩) hS.2.2 hdg hlocks))
    · exact hs'.elim
  · cases h
theorem ok_dret (C : Cx cc own Ts p l s m args meth c D G A nL) {B : Nat} (hQ : Q = vx_MQ below (QcOf D G A ρ0 RS) (XCOf D G A ρ0 RS) args s B B A) (hPe : ∀ r, Pe r → r ∈ RS) (hlocks : meth.locks = false) (hr : meth.sig.returnType = some .double) (hdg : decode cc pc = .ok (.dreturn, 1)) {j : Jmp} : KOK p l e R s m args below meth c Q D G A ρ0 nL Pe pc (tm_ret isD B call j) := by
  intro E n z L S M rs h he ρ H locs ls st h0 hE hM hS hL hs
  rcases S with _ | ⟨a, S⟩
  · cases h
  obtain ⟨u, st, rfl, hu, hs'⟩ := czs_cons hs
  rcases S with _ | ⟨b, S⟩
  · rcases st with _ | ⟨w, st⟩
    · obtain ⟨h1, h2⟩ := gd_some (show gd (isD a) (gd (Nat.ble z B) (some [((0, 0), E, a, [], [], M, n, z)])) = some rs from h)
      obtain ⟨h3, h4⟩ := gd_some h2
      cases h4
      have hz := Nat.le_of_ble_eq_true h3
      obtain ⟨x, rfl⟩ := cz_isD hu h1
      subst hQ
      exact W.widen hz hz (vx_ret (W.dret C.1 C.2.1 hr (fun t ht hW => ⟨⟨_, hPe _ (he _ List.mem_cons_self), _, ρ, rfl, Or.inl ⟨rfl, _, rfl, hu⟩, h0, hE, by rw [ht]; exact memR_moved hW.alike hM⟩, hS.F ht⟩) hS.2.2 hdg hlocks))
    · exact hs'.elim
  · cases h
theorem ok_fret (C : Cx cc own Ts p l s m args meth c D G A nL) {B : Nat} (hQ : Q = vx_MQ below (QcOf D G A ρ0 RS) (XCOf D G A ρ0 RS) args s B B A) (hPe : ∀ r, Pe r → r ∈ RS) (hlocks : meth.locks = false) (hr : meth.sig.returnType = some .float) (hdg : decode cc pc = .ok (.freturn, 1)) {j : Jmp} : KOK p l e R s m args below meth c Q D G A ρ0 nL Pe pc (tm_ret isF B call j) := by
  intro E n z L S M rs h he ρ H locs ls st h0 hE hM hS hL hs
  rcases S with _ | ⟨a, S⟩
  · cases h
  obtain ⟨u, st, rfl, hu, hs'⟩ := czs_cons hs
  rcases S with _ | ⟨b, S⟩
  · rcases st with _ | ⟨w, st⟩
    · obtain ⟨h1, h2⟩ := gd_some (show gd (isF a) (gd (Nat.ble z B) (some [((0, 0), E, a, [], [], M, n, z)])) = some rs from h)
      obtain ⟨h3, h4⟩ := gd_some h2
      cases h4
      have hz := Nat.le_of_ble_eq_true h3
      obtain ⟨x, rfl⟩ : ∃ x, u = .float x := by
        rcases a with n | k | n | o | i | w | n | n
        · cases h1
        · cases h1
        · cases h1
        · cases h1
        · cases h1
        · cases h1
        · exact ⟨_, hu⟩
        · cases h1
      subst hQ
      exact W.widen hz hz (vx_ret (W.fret C.1 C.2.1 hr (fun t ht hW => ⟨⟨_, hPe _ (he _ List.mem_cons_self), _, ρ, rfl, Or.inl ⟨rfl, _, rfl, hu⟩, h0, hE, by rw [ht]; exact memR_moved hW.alike hM⟩, hS.F ht⟩) hS.2.2 hdg hlocks))
    · exact hs'.elim
  · cases h
theorem ok_aret (C : Cx cc own Ts p l s m args meth c D G A nL) {B : Nat} {cn : String} (hQ : Q = vx_MQ below (QcOf D G A ρ0 RS) (XCOf D G A ρ0 RS) args s B B A) (hPe : ∀ r, Pe r → r ∈ RS) (hlocks : meth.locks = false) (hr : meth.sig.returnType = some (.object cn)) (hdg : decode cc pc = .ok (.areturn, 1)) {j : Jmp} : KOK p l e R s m args below meth c Q D G A ρ0 nL Pe pc (tm_ret isA B call j) := by
  intro E n z L S M rs h he ρ H locs ls st h0 hE hM hS hL hs
  rcases S with _ | ⟨a, S⟩
  · cases h
  obtain ⟨u, st, rfl, hu, hs'⟩ := czs_cons hs
  rcases S with _ | ⟨b, S⟩
  · rcases st with _ | ⟨w, st⟩
    · obtain ⟨h1, h2⟩ := gd_some (show gd (isA a) (gd (Nat.ble z B) (some [((0, 0), E, a, [], [], M, n, z)])) = some rs from h)
      obtain ⟨h3, h4⟩ := gd_some h2
      cases h4
      have hz := Nat.le_of_ble_eq_true h3
      subst hQ
      exact W.widen hz hz (vx_ret (W.aret C.1 C.2.1 hr (Or.inl ⟨_, rfl⟩) (cz_isA hu h1) (fun t ht hW => ⟨⟨_, hPe _ (he _ List.mem_cons_self), _, ρ, rfl, Or.inl ⟨rfl, _, rfl, hu⟩, h0, hE, by rw [ht]; exact memR_moved hW.alike hM⟩, hS.F ht⟩) hS.2.2 hdg hlocks))
    · exact hs'.elim
  · cases h
theorem ri_I {ty : FieldType} (ht : ty = .int) {ρ : List Nat} {a : AV} {v : Value} (hv : cz G ρ a v) (h : isI a = true) : ∃ x, v = .int x ∧ narrow ty (.int x) = .int x := by
  obtain ⟨x, rfl⟩ := cz_isI hv h
  subst ht
  exact ⟨x, rfl, rfl⟩
theorem ri_Z {ty : FieldType} (ht : ty = .boolean) {ρ : List Nat} {a : AV} {v : Value} (hv : cz G ρ a v) (h : isZ a = true) : ∃ x, v = .int x ∧ narrow ty (.int x) = .int x := by
  obtain ⟨k, hk, -, rfl⟩ := cz_isZ hv h
  subst ht
  refine ⟨_, rfl, ?_⟩
  rcases (show k = 0 ∨ k = 1 by omega) with rfl | rfl <;> decide +kernel
theorem memR_kept {ρ : List Nat} {n : Nat} {M : Mem} {H H1 : Heap} (hM : memR D s G A ρ n M H) (hq : ∀ q : Nat, q < H.size → H1[q]? = H[q]?) : memR D s G A ρ n M H1 := by
  obtain ⟨ws, w1, w2, w3, w4, w5, w6⟩ := hM
  exact ⟨ws, w1, w2, w3, w4, fun k q hk => (w5 k q hk).kept (hq q.1 (w5 k q hk).lt), w6⟩
def nm2 : List String := ["java/lang/RuntimeException", "java/lang/Exception"]
theorem ok_throw (C : Cx cc own Ts p l s m args meth c D G A nL) (hF : Fx G A s s.heap) {x B ik is ic ti : Nat} {tx : String} (hR : (own, is, tx, ti) ∈ refTx) (hk : Cond.classLink own ik (excN x) ∈ Ts) (hini : Cond.initialized (excN x) ∈ Ts) (hcls : Bundle.fit (excN x) = true) (hat : ∀ w ∈ vx_atS own ic (excN x) nm2, w.before args s = true) (hgood : ∀ w ∈ Cond.classLink own ik (excN x) :: Cond.initialized (excN x) :: vx_atS own ic (excN x) nm2, vx_ot w = true)
    (hQ : Q = vx_MQ below (QcOf D G A ρ0 RS) (XCOf D G A ρ0 RS) args s B B A) (hPe : ∀ r, Pe r → r ∈ RS) (hlocks : meth.locks = false) (hout : c.exceptionTable.toList = tableOf []) (hl : l.stackTraces = false) (hfr : 5 < R.frames) (hlo : 82 ≤ R.locals) (hB : R.cells = B ∧ R.slots = B)
    (d0 : decode cc pc = .ok (.new ik, 3)) (d3 : decode cc (pc + 3) = .ok (.dup, 1)) (d4 : decode cc (pc + 4) = .ok (.ldc is, 2)) (d6 : decode cc (pc + 6) = .ok (.invokespecial ic, 3)) (d9 : decode cc (pc + 9) = .ok (.athrow, 1)) {j : Jmp} : KOK p l e R s m args below meth c Q D G A ρ0 nL Pe pc (tm_throw x B call j) := by
  intro E n z L S M rs h he ρ H locs ls st h0 hE hM hS hL hs
  rcases S with _ | ⟨a, S⟩
  · rcases st with _ | ⟨w, st⟩
    · obtain ⟨h3, h4⟩ := gd_some (show gd (Nat.ble (z + 7) B) (some [((2, x), E, vW 3, [], [], M, n, z)]) = some rs from h)
      cases h4
      have hz := Nat.le_of_ble_eq_true h3
      have hr := hPe _ (he _ List.mem_cons_self)
      subst hQ
      exact vx_throwS C.1 C.2.1 hl C.2.2.2.1 hcls (by decide) (C.2.2.2.2.1 _ hk) (C.2.2.2.2.1 _ hini) (hF.2.1 _ hR) hat hgood hF.2.2.1 hF.2.2.2.1 hS (hL.1.trans C.2.2.1.symm) d0 d3 d4 d6 d9 (fun y hy => by rw [hout] at hy; cases hy) (by show 2 + 3 < R.frames; omega) (by show 0 + (13 * (2 + 1) + 43) ≤ R.locals; omega) (by omega) (by omega) hlocks
        (fun t hal g1 g2 => ⟨⟨_, hr, rfl, rfl, ρ, h0, hE, memR_moved hal (memR_kept hM g2)⟩, Nat.le_trans hS.1 g1, fun q q1 q2 => by rw [g2 q (Nat.lt_of_lt_of_le q1 hS.1)]; exact hS.2.1 q q1 q2⟩) hS.2.2 (by omega) (by omega)
    · exact hs.elim
  · cases h
theorem ok_throwW (C : Cx cc own Ts p l s m args meth c D G A nL) (hF : Fx G A s s.heap) {x B ik is ic ti : Nat} {tx : String} (hR : (own, is, tx, ti) ∈ refTx) (hk : Cond.classLink own ik (excN x) ∈ Ts) (hini : Cond.initialized (excN x) ∈ Ts) (hcls : Bundle.fit (excN x) = true) (hat : ∀ w ∈ vx_atS own ic (excN x) nm2, w.before args s = true) (hgood : ∀ w ∈ Cond.classLink own ik (excN x) :: Cond.initialized (excN x) :: vx_atS own ic (excN x) nm2, vx_ot w = true)
    (hQ : Q = vx_MQ below (QcOf D G A ρ0 RS) (XCOf D G A ρ0 RS) args s B B A) (hPe : ∀ r, Pe r → r ∈ RS) (hlocks : meth.locks = false) (hout : c.exceptionTable.toList = tableOf []) (hl : l.stackTraces = false) (hfr : 5 < R.frames) (hlo : 82 ≤ R.locals) (hB : R.cells = B ∧ R.slots = B)
    (d0 : decode cc pc = .ok (.new ik, 3)) (d3 : decode cc (pc + 3) = .ok (.dup, 1)) (d4 : decode cc (pc + 4) = .ok (.ldc_w is, 3)) (d7 : decode cc (pc + 7) = .ok (.invokespecial ic, 3)) (d10 : decode cc (pc + 10) = .ok (.athrow, 1)) {j : Jmp} : KOK p l e R s m args below meth c Q D G A ρ0 nL Pe pc (tm_throw x B call j) := by
  intro E n z L S M rs h he ρ H locs ls st h0 hE hM hS hL hs
  rcases S with _ | ⟨a, S⟩
  · rcases st with _ | ⟨w, st⟩
    · obtain ⟨h3, h4⟩ := gd_some (show gd (Nat.ble (z + 7) B) (some [((2, x), E, vW 3, [], [], M, n, z)]) = some rs from h)
      cases h4
      have hz := Nat.le_of_ble_eq_true h3
      have hr := hPe _ (he _ List.mem_cons_self)
      subst hQ
      exact vx_throwSW C.1 C.2.1 hl C.2.2.2.1 hcls (by decide) (C.2.2.2.2.1 _ hk) (C.2.2.2.2.1 _ hini) (hF.2.1 _ hR) hat hgood hF.2.2.1 hF.2.2.2.1 hS (hL.1.trans C.2.2.1.symm) d0 d3 d4 d7 d10 (fun y hy => by rw [hout] at hy; cases hy) (by show 2 + 3 < R.frames; omega) (by show 0 + (13 * (2 + 1) + 43) ≤ R.locals; omega) (by omega) (by omega) hlocks
        (fun t hal g1 g2 => ⟨⟨_, hr, rfl, rfl, ρ, h0, hE, memR_moved hal (memR_kept hM g2)⟩, Nat.le_trans hS.1 g1, fun q q1 q2 => by rw [g2 q (Nat.lt_of_lt_of_le q1 hS.1)]; exact hS.2.1 q q1 q2⟩) hS.2.2 (by omega) (by omega)
    · exact hs.elim
  · cases h
def CatOK (p : Program) (l : Launch) (e : Env) (R : Room) (s : State) (m : MethodId) (args : Array Value) (below : List Frame) (meth : Method) (c : Code) (Q : State → Prop) (pc x pcH : Nat) : Prop :=
  ∀ (H : Heap) (locs : List Loc) (z : Nat) (ls : Array Slot) (rest : List Value) (q : Addr) (ce : Cell), H[q]? = some ce → ce.vm = .none → s.vm.findClass (excN x) = some ce.cls → W p l e R s m args below meth c H locs z z Q (F0 m pcH ls [.ref q]) → vx_W p l e R s m args below meth c H locs z z Q (F0 m pc ls rest) q
theorem ok_callH (C : Cx cc own Ts p l s m args meth c D G A nL) {g : List AV → Mem → Bool} {y na bud B t : Nat} {hd : List Nat} {yn : MethodName} {ws : List Cond} {rm : Room} {j : Jmp} {pcof : Nat → Nat} (hcall : ∀ E n as M rs, call y E n as M = some rs → MOK l D G A yn ws rm E n as M rs) (hrun : RunXOK p l e R s m args below meth c D G A nL yn ws rm g na bud B pc)
    (hcat : ∀ x b, nthN hd 0 x = b + 1 → CatOK p l e R s m args below meth c Q pc x (pcof b)) (hJ : ∀ b, KOK p l e R s m args below meth c Q D G A ρ0 nL Pe (pcof b) (j b)) (ht : pcof t = pc + 3) : KOK p l e R s m args below meth c Q D G A ρ0 nL Pe pc (tm_callH g y na bud B t hd call j) := by
  intro E n z L S M rs h he ρ H locs ls st h0 hE hM hS hL hs
  unfold tm_callH at h
  obtain ⟨h1, h⟩ := gd_some h
  obtain ⟨h2, h⟩ := gd_some h
  obtain ⟨h3, h⟩ := gd_some h
  obtain ⟨h4, h⟩ := gd_some h
  have hK := hJ t
  rw [ht] at hK
  cases hc : call y E n (spl na [] S).1 M with
  | none => simp only [hc] at h; cases h
  | some rs1 =>
    simp only [hc] at h
    have hall := joinR_ok h
    have hmok := hcall E n _ M rs1 hc
    obtain ⟨vals, rest, rfl, hlen, hv, hr⟩ := spl_spec na [] S [] st (Nat.le_of_ble_eq_true h1) trivial hs
    rw [List.append_nil] at hv
    have hrun' := hrun ρ n M _ rs1 H locs z ls vals rest hlen hv h4 hM hS (Nat.le_trans (czs_cat hr) (Nat.le_of_ble_eq_true h2)) (Nat.le_of_ble_eq_true h3) hL.1 (hmok ρ vals hE hv)
    intro T hT X
    rcases hrun' T hT X with ⟨v, st₀, t, T', L', g0, X', gL, e1, e2, hq, stp⟩ | ⟨q, st₀, t, T', L', E', ce, g0, X', gL, e1, e2, hx, hce, hcv, hcl, stp⟩
    · obtain ⟨tg, a1, b1⟩ := call_ret C hS (pc' := pc + 3) (ls := ls) (rest := rest) g0 X' gL e1 e2 hq (fun r ρ' H1 locs1 hr1 hv1 hp hE' hM' hS' => by
        obtain ⟨rs', g1, g2⟩ := hall r hr1
        obtain ⟨⟨k, x⟩, E', v', S', L', M', n', z'⟩ := r
        rcases hv1 with ⟨hk0, x, rfl, hx⟩ | ⟨hk1, rfl⟩
        · have hk0' : k = 0 := hk0
          subst hk0'
          have g1' : fN n' (fun n' => j _ E' n' (z + bud) L (v' :: (spl na [] S).2) M') = some rs' := g1
          rw [fN_eq] at g1'
          exact hK E' n' (z + bud) L _ M' rs' g1' (fun q hq => he q (g2 q hq)) ρ' H1 locs1 ls _ (h0.trans hp) hE' hM' hS' (locR_mono hp hL) ⟨hx, czs_mono hp hr⟩
        · have hk1' : k = 1 := hk1
          subst hk1'
          have g1' : fN n' (fun n' => j _ E' n' (z + bud) L (spl na [] S).2 M') = some rs' := g1
          rw [fN_eq] at g1'
          exact hK E' n' (z + bud) L _ M' rs' g1' (fun q hq => he q (g2 q hq)) ρ' H1 locs1 ls _ (h0.trans hp) hE' hM' hS' (locR_mono hp hL) (czs_mono hp hr))
      exact ⟨tg, stp tg a1, b1⟩
    · obtain ⟨⟨r, hr1, hk2, hEx, ρ', hp, hE', hM'⟩, hF⟩ := hx
      obtain ⟨k1, k2, k3⟩ := vx_keep (A0 := A) (A1 := A) g0 e1 hS (fun _ _ h => h) (fun _ h => h) gL hF
      obtain ⟨rs', g1, g2⟩ := hall r hr1
      obtain ⟨⟨k, x⟩, Ev, v', S', Lv, M', n', z'⟩ := r
      have hk2' : k = 2 := hk2
      subst hk2'
      have hEx' : E' = excN x := hEx
      subst hEx'
      have g1' : fN n' (fun n' => hcase (nthN hd 0 x) fun b => j b Ev n' (z + bud) L [vW 1] M') = some rs' := g1
      rw [fN_eq] at g1'
      have hal : t.vm.Alike s.vm := by rw [← e2]; exact X'.warmed.alike.symm
      cases hb : nthN hd 0 x with
      | zero => rw [hb] at g1'; cases g1'
      | succ b =>
        rw [hb] at g1'
        have g1'' : j b Ev n' (z + bud) L [vW 1] M' = some rs' := g1'
        have hz2 : memR D s G A ρ' n' M' T'.heap := by rw [e1]; exact memR_moved hal hM'
        obtain ⟨tg, a1, b1⟩ := hcat x b hb T'.heap (locs ++ L') (z + bud) ls rest q ce (by rw [e1]; exact hce) hcv hcl (hJ b Ev n' (z + bud) L [vW 1] M' rs' g1'' (fun q hq => he q (g2 q hq)) ρ' T'.heap (locs ++ L') ls [.ref q] (h0.trans hp) hE' hz2 k3 (locR_mono hp hL) ⟨Or.inr (Or.inl ⟨rfl, q, rfl⟩), trivial⟩) T' rfl X'
        exact ⟨tg, stp.trans a1, b1⟩
theorem ok_cut {q : Nat} (hcut : ∀ E n z L S M, Pe ((3, q), E, vW 3, S, L, M, n, z) → WW p l e R s m args below meth c Q D G A ρ0 nL pc E n z L S M) {j : Jmp} : KOK p l e R s m args below meth c Q D G A ρ0 nL Pe pc (tm_cut q call j) := by
  intro E n z L S M rs h he
  have h' : (some [((3, q), E, vW 3, S, L, M, n, z)] : OR) = some rs := h
  cases h'
  exact hcut E n z L S M (he _ List.mem_cons_self)
theorem ok_fail {j : Jmp} : KOK p l e R s m args below meth c Q D G A ρ0 nL Pe pc (tm_fail call j) := by
  intro E n z L S M rs h
  cases h
theorem ok_failO : KOK p l e R s m args below meth c Q D G A ρ0 nL Pe pc (op_fail call K) := by
  intro E n z L S M rs h
  cases h
theorem ok_runF {d : Nat} {code : TrT Blk d} {pcof : Nat → Nat} (hcode : ∀ j : Jmp, (∀ b, KOK p l e R s m args below meth c Q D G A ρ0 nL Pe (pcof b) (j b)) → ∀ b, KOK p l e R s m args below meth c Q D G A ρ0 nL Pe (pcof b) (runB call j (tget d code b).2 (tget d code b).1)) : ∀ f b, KOK p l e R s m args below meth c Q D G A ρ0 nL Pe (pcof b) (runF call d code f b) := by
  intro f
  induction f with
  | zero => intro b E n z L S M rs h; cases h
  | succ f ih => exact fun b => hcode (runF call d code f) ih b
end ENDS9
theorem vx_ofW9 {l : Launch} {y : MethodName} {ws ws' : List Cond} {rm : Room} {Pc : Array Value → State → Prop} {Qc : Array Value → State → Outcome → State → Prop} {XC : String → State → State → Prop} {mc ms : Nat} {free : Addr → Prop} {cc : ByteArray} {maxL : Nat} {ret : Option FieldType}
    (hy : plainFor y = true) (hw : ws = Cond.code y cc maxL ret :: ws')
    (body : ∀ p e s m args below meth c s₁, BodyLoose p l y (headSpec ws rm) cc maxL ret e s m args below meth c s₁ → c.maxLocals = maxL → (∀ x ∈ c.exceptionTable.toList, False) → Pc args s →
      W p l e (headSpec ws rm).room s m args below meth c s.heap [] 0 0 (vx_MQ below Qc XC args s mc ms free) (entryFrame m args maxL)) : vx_Met l y ws rm Pc Qc XC mc ms free := by
  refine MetFree.of_bodySF (code := cc) (maxLocals := maxL) (ret := ret) hy ?_ ?_
  · intro args s m h hn
    obtain ⟨meth, c, h1, h2, h3, h4, h5, h6, -, -⟩ := Cond.code_spec hn (atoms_spec (ws := ws) h _ (by rw [hw]; exact List.mem_cons_self))
    exact ⟨meth, c, h1, h2, h3, h4, h5, h6⟩
  · intro p e s m args below meth c s₁ B hml hP _
    have hh0 : s₁.heap = s.heap := by rw [B.state]; rfl
    have ht : ∀ x ∈ c.exceptionTable.toList, False := by
      obtain ⟨meth9, c9, h1, h2, -, -, -, -, h7, -⟩ := Cond.code_spec B.named (atoms_spec (ws := ws) B.pre _ (by rw [hw]; exact List.mem_cons_self))
      cases Option.some.inj (h1.symm.trans B.method)
      cases Option.some.inj (h2.symm.trans (Stand.of_body B).code)
      intro x hx
      rw [Array.isEmpty_iff.mp h7] at hx
      cases hx
    obtain ⟨t, a1, o, b1, b2, b3⟩ := body p e s m args below meth c s₁ B hml ht hP s₁ hh0 (Stand.of_body B)
    exact ⟨t, o, a1, b1, b2, b3⟩
noncomputable def flatL (as : List AV) : List AV := List.rec (motive := fun _ => List AV) [] (fun a _ ih => Bool.rec (a :: ih) (a :: vW 3 :: ih) (isC2 a)) as
noncomputable def iniL (nL : Nat) (as : List AV) : List AV := flatL as ++ repA (vW 3) (nL - (flatL as).length)
theorem flat_cons (a : AV) (l : List AV) : flatL (a :: l) = if isC2 a = true then a :: vW 3 :: flatL l else a :: flatL l := by
  show (Bool.rec (a :: flatL l) (a :: vW 3 :: flatL l) (isC2 a) : List AV) = _
  cases isC2 a <;> rfl
theorem rep_nth3 : ∀ N j, nth (repA (vW 3) N) j = vW 3 := by
  intro N
  induction N with
  | zero => intro j; rfl
  | succ N ih =>
    intro j
    cases j with
    | zero => rfl
    | succ j => exact ih j
theorem cz_c2 {G : Gam} {ρ : List Nat} {a : AV} {v : Value} (hc : cz G ρ a v) (h : isC2 a = true) : v.category = 2 := by
  rcases a with n | k | n | o | i | w | n | n
  · cases h
  · cases h
  · rw [show v = _ from hc]; rfl
  · cases h
  · rw [show v = _ from hc]; rfl
  · cases h
  · cases h
  · rw [show v = _ from hc]; rfl
theorem ini_at {G : Gam} {ρ : List Nat} (N : Nat) : ∀ (as : List AV) (vs : List Value) (k : Nat), czs G ρ as vs → ∀ i, nth (flatL as ++ repA (vW 3) N) i = vW 3 ∨ ∃ v, cz G ρ (nth (flatL as ++ repA (vW 3) N) i) v ∧ (k + i, v) ∈ lv_args k vs := by
  intro as
  induction as with
  | nil => intro vs k _ i; exact Or.inl (rep_nth3 N i)
  | cons a as ih =>
    intro vs k h i
    obtain ⟨v, vs, rfl, h1, h2⟩ := czs_cons h
    rw [flat_cons]
    by_cases hc : isC2 a = true
    · rw [if_pos hc]
      have e : lv_args k (v :: vs) = (k, v) :: lv_args (k + 2) vs := by
        show (k, v) :: lv_args (if v.category = 2 then k + 2 else k + 1) vs = _
        rw [if_pos (cz_c2 h1 hc)]
      rw [e]
      rcases i with _ | _ | i
      · exact Or.inr ⟨v, h1, List.mem_cons_self⟩
      · exact Or.inl rfl
      · rcases ih vs (k + 2) h2 i with q | ⟨u, q1, q2⟩
        · exact Or.inl q
        · refine Or.inr ⟨u, q1, List.mem_cons_of_mem _ ?_⟩
          rw [show k + (i + 1 + 1) = k + 2 + i by omega]
          exact q2
    · rw [if_neg hc]
      have e : lv_args k (v :: vs) = (k, v) :: lv_args (k + 1) vs := by
        show (k, v) :: lv_args (if v.category = 2 then k + 2 else k + 1) vs = _
        rw [if_neg (by rw [cz_c1 h1 (by simpa using hc)]; decide)]
      rw [e]
      rcases i with _ | i
      · exact Or.inr ⟨v, h1, List.mem_cons_self⟩
      · rcases ih vs (k + 1) h2 i with q | ⟨u, q1, q2⟩
        · exact Or.inl q
        · refine Or.inr ⟨u, q1, List.mem_cons_of_mem _ ?_⟩
          rw [show k + (i + 1) = k + 1 + i by omega]
          exact q2
theorem flat_len {G : Gam} {ρ : List Nat} : ∀ (as : List AV) (vs : List Value), czs G ρ as vs → (lg_sl vs).length = (flatL as).length := by
  intro as
  induction as with
  | nil => intro vs h; cases vs with
    | nil => rfl
    | cons v vs => exact h.elim
  | cons a as ih =>
    intro vs h
    obtain ⟨v, vs, rfl, h1, h2⟩ := czs_cons h
    have h3 := ih vs h2
    rw [flat_cons]
    have e : lg_sl (v :: vs) = (if v.category = 2 then [Slot.val v, .second] else [.val v]) ++ lg_sl vs := by unfold lg_sl; rw [List.flatMap_cons]
    rw [e, List.length_append, h3]
    by_cases hc : isC2 a = true
    · rw [if_pos hc, if_pos (cz_c2 h1 hc)]
      simp
      omega
    · rw [if_neg hc, if_neg (by rw [cz_c1 h1 (by simpa using hc)]; decide)]
      simp
      omega
theorem rep_len3 (N : Nat) : (repA (vW 3) N).length = N := rep_len _ N
/-- a method's contract out of its blocks -/
theorem meth_ok {l : Launch} {D : va_G} {G : Gam} {A : Nat → Prop} {inf : Inf} {call : Call} {yn : MethodName} {bytes : ByteArray} {nL : Nat} {ret : Option FieldType} {ws' : List Cond} {rm : Room} {d : Nat} {code : TrT Blk d} {pcof : Nat → Nat} (hy : plainFor yn = true) (hst : l.stackTraces = false) (hrm : rm.slots = rm.cells) (hcall : CallOK l D G A inf call) (hp0 : pcof 0 = 0)
    (hcode : ∀ (p : Program) (e : Env) (R : Room) (s : State) (m : MethodId) (args : Array Value) (below : List Frame) (meth : Method) (c : Code) (Q : State → Prop) (ρ0 : List Nat) (RS : List Res) (Pe : Res → Prop), Mx bytes nL ret [] (.code yn bytes nL ret :: ws') rm yn inf p l e R s m args below meth c Q D G A ρ0 RS Pe call → ∀ j : Jmp, (∀ b, KOK p l e R s m args below meth c Q D G A ρ0 nL Pe (pcof b) (j b)) → ∀ b, KOK p l e R s m args below meth c Q D G A ρ0 nL Pe (pcof b) (runB call j (tget d code b).2 (tget d code b).1))
    {f : Nat} {E : Env9} {n : Nat} {as : List AV} {M : Mem} {rs : List Res} (h : gd (Nat.ble (flatL as).length nL) (runF call d code f 0 E n 0 (iniL nL as) [] M) = some rs) : MOK l D G A yn (.code yn bytes nL ret :: ws') rm E n as M rs := by
  intro ρ vals hE hv
  obtain ⟨hlen, hrun⟩ := gd_some h
  have hlen := Nat.le_of_ble_eq_true hlen
  refine vx_ofW9 (cc := bytes) (maxL := nL) (ret := ret) hy rfl ?_
  intro p e s m args below meth c s₁ B hml hout hpc
  obtain ⟨rfl, hFx, hK, hA, hM⟩ := hpc
  have hts := atoms_spec (ws := .code yn bytes nL ret :: ws') B.pre
  have hown : s.vm.findClass yn.cls = some m.cls := findClass_of_methodNamed B.named
  have hC : Cx bytes yn.cls (.code yn bytes nL ret :: ws') p l s m vals.toArray meth c D G A nL := ⟨B.exec, B.bytes, hml, hown, hts, hK, hA⟩
  have ht : c.exceptionTable.toList = tableOf [] := by
    rw [show tableOf [] = [] from rfl]
    cases hq : c.exceptionTable.toList with
    | nil => rfl
    | cons x xs => exact (hout x (by rw [hq]; exact List.mem_cons_self)).elim
  have hX : Mx bytes nL ret [] (.code yn bytes nL ret :: ws') rm yn inf p l e (headSpec (.code yn bytes nL ret :: ws') rm).room s m vals.toArray below meth c (vx_MQ below (QcOf D G A ρ rs) (XCOf D G A ρ rs) vals.toArray s rm.cells rm.cells A) D G A ρ rs (fun r => r ∈ rs) call :=
    ⟨hC, hcall, hFx, rfl, rfl, fun _ h => h, B.notSynchronized, ht, B.returns, (name_of_methodNamed B.named B.method).1, hst, hrm⟩
  have hwalk := ok_runF (hcode p e _ s m _ below meth c _ ρ rs _ hX) f 0
  rw [hp0] at hwalk
  have hl := lv_entry vals (n := nL) (by rw [flat_len as vals hv]; exact hlen)
  rw [lg_entry_eq]
  rw [hrm]
  refine hwalk E n 0 _ [] M rs hrun (fun _ h => h) ρ s.heap [] _ [] (List.prefix_refl ρ) hE hM va_S.rf ⟨hl.1, hl.2.1, ?_, fun i => ?_⟩ trivial
  · unfold iniL
    rw [List.length_append, rep_len3]
    omega
  · rcases ini_at (nL - (flatL as).length) as vals 0 hv i with q | ⟨v, q1, q2⟩
    · exact Or.inl q
    · rw [Nat.zero_add] at q2
      exact Or.inr ⟨v, q1, hl.2.2 (i, v) q2⟩
theorem methH_ok {l : Launch} {D : va_G} {G : Gam} {A : Nat → Prop} {inf : Inf} {call : Call} {yn : MethodName} {bytes : ByteArray} {nL : Nat} {ret : Option FieldType} {hh : List (Nat × Nat × Nat × Nat)} {ws' : List Cond} {rm : Room} {d : Nat} {code : TrT Blk d} {pcof : Nat → Nat} (hy : plainName yn.cls = true) (hst : l.stackTraces = false) (hrm : rm.slots = rm.cells) (hcall : CallOK l D G A inf call) (hp0 : pcof 0 = 0)
    (hcode : ∀ (p : Program) (e : Env) (R : Room) (s : State) (m : MethodId) (args : Array Value) (below : List Frame) (meth : Method) (c : Code) (Q : State → Prop) (ρ0 : List Nat) (RS : List Res) (Pe : Res → Prop), Mx bytes nL ret hh (.codeWith yn bytes nL ret hh :: ws') rm yn inf p l e R s m args below meth c Q D G A ρ0 RS Pe call → ∀ j : Jmp, (∀ b, KOK p l e R s m args below meth c Q D G A ρ0 nL Pe (pcof b) (j b)) → ∀ b, KOK p l e R s m args below meth c Q D G A ρ0 nL Pe (pcof b) (runB call j (tget d code b).2 (tget d code b).1))
    {f : Nat} {E : Env9} {n : Nat} {as : List AV} {M : Mem} {rs : List Res} (h : gd (Nat.ble (flatL as).length nL) (runF call d code f 0 E n 0 (iniL nL as) [] M) = some rs) : MOK l D G A yn (.codeWith yn bytes nL ret hh :: ws') rm E n as M rs := by
  intro ρ vals hE hv
  obtain ⟨hlen, hrun⟩ := gd_some h
  have hlen := Nat.le_of_ble_eq_true hlen
  refine vx_ofWH (cc := bytes) (maxL := nL) (ret := ret) (hh := hh) hy rfl ?_
  intro p e s m args below meth c s₁ B hml hpc
  obtain ⟨rfl, hFx, hK, hA, hM⟩ := hpc
  have hts := atoms_spec (ws := .codeWith yn bytes nL ret hh :: ws') B.pre
  have hown : s.vm.findClass yn.cls = some m.cls := findClass_of_methodNamed B.named
  have hC : Cx bytes yn.cls (.codeWith yn bytes nL ret hh :: ws') p l s m vals.toArray meth c D G A nL := ⟨B.exec, B.bytes, hml, hown, hts, hK, hA⟩
  have ht : c.exceptionTable.toList = tableOf hh := vx_table (x := yn) B (hts _ List.mem_cons_self)
  have hX : Mx bytes nL ret hh (.codeWith yn bytes nL ret hh :: ws') rm yn inf p l e (headSpec (.codeWith yn bytes nL ret hh :: ws') rm).room s m vals.toArray below meth c (vx_MQ below (QcOf D G A ρ rs) (XCOf D G A ρ rs) vals.toArray s rm.cells rm.cells A) D G A ρ rs (fun r => r ∈ rs) call :=
    ⟨hC, hcall, hFx, rfl, rfl, fun _ h => h, B.notSynchronized, ht, B.returns, (name_of_methodNamed B.named B.method).1, hst, hrm⟩
  have hwalk := ok_runF (hcode p e _ s m _ below meth c _ ρ rs _ hX) f 0
  rw [hp0] at hwalk
  have hl := lv_entry vals (n := nL) (by rw [flat_len as vals hv]; exact hlen)
  rw [lg_entry_eq]
  rw [hrm]
  refine hwalk E n 0 _ [] M rs hrun (fun _ h => h) ρ s.heap [] _ [] (List.prefix_refl ρ) hE hM va_S.rf ⟨hl.1, hl.2.1, ?_, fun i => ?_⟩ trivial
  · unfold iniL
    rw [List.length_append, rep_len3]
    omega
  · rcases ini_at (nL - (flatL as).length) as vals 0 hv i with q | ⟨v, q1, q2⟩
    · exact Or.inl q
    · rw [Nat.zero_add] at q2
      exact Or.inr ⟨v, q1, hl.2.2 (i, v) q2⟩
