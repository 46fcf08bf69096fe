/-! calls, returns, throws -/
section CALL2
variable {p : Program} {l : Launch} {e : Env} {R : Room} {s : State} {m : MethodId} {args : Array Value} {below : List Frame} {meth : Method} {c : Code} {Q : State → Prop} {D : va_G} {G : Gam} {A : Nat → Prop} {ρ0 : List Nat} {nL : Nat} {Pe : Res → Prop} {cc : ByteArray} {own : String} {Ts : List Cond} {pc : Nat} {K : KK} {call : Call} {RS : List Res}

theorem pre_of (C : Cx cc own Ts p l s m args meth c D G A nL) (hF : Fx G A s s.heap) {ρ : List Nat} {n : Nat} {M : Mem} {H : Heap} {locs : List Loc} {vals : List Value} (hM : memR D s G A ρ n M H) (hS : va_S A s.heap H locs) : ∀ U : State, U.heap = H → s.WarmedH U.vm → PcOf D G A ρ n M vals vals.toArray U := by
  intro U hU hW
  refine ⟨rfl, Fx.to hW (fun a h1 h2 => by rw [hU]; exact hS.2.1 a h1 h2) hF, va_K.moved hW.alike C.2.2.2.2.2.1, fun q hq => C.2.2.2.2.2.2 q (Nat.le_trans hS.1 (by rw [← hU]; exact hq)), ?_⟩
  rw [hU]
  exact memR_moved hW.alike hM
/-- a call, of whatever kind: the machine's own run of it -/
def RunOK (p : Program) (l : Launch) (e : Env) (R : Room) (s : State) (m : MethodId) (args : Array Value) (below : List Frame) (meth : Method) (c : Code) (D : va_G) (G : Gam) (A : Nat → Prop) (nL : Nat) (yn : MethodName) (ws : List Cond) (rm : Room) (g : List AV → Mem → Bool) (na bud B pc : Nat) : Prop :=
  ∀ (ρ : List Nat) (n : Nat) (M : Mem) (as : List AV) (rs : List Res) (H : Heap) (locs : List Loc) (z : Nat) (ls : Array Slot) (vals rest : List Value), vals.length = na → czs G ρ as vals → g as M = true → memR D s G A ρ n M H → va_S A s.heap H locs → (rest.map fun v => v.category).sum ≤ 8 → z + bud ≤ B → ls.size = nL →
    Met l yn ws rm (PcOf D G A ρ n M vals) (QcOf D G A ρ rs) rm.cells rm.slots A → va_Run p l e R s m args below meth c H locs z z bud bud (F0 m pc ls (vals.reverse ++ rest)) rest (QcOf D G A ρ rs vals.toArray) A
def RunXOK (p : Program) (l : Launch) (e : Env) (R : Room) (s : State) (m : MethodId) (args : Array Value) (below : List Frame) (meth : Method) (c : Code) (D : va_G) (G : Gam) (A : Nat → Prop) (nL : Nat) (yn : MethodName) (ws : List Cond) (rm : Room) (g : List AV → Mem → Bool) (na bud B pc : Nat) : Prop :=
  ∀ (ρ : List Nat) (n : Nat) (M : Mem) (as : List AV) (rs : List Res) (H : Heap) (locs : List Loc) (z : Nat) (ls : Array Slot) (vals rest : List Value), vals.length = na → czs G ρ as vals → g as M = true → memR D s G A ρ n M H → va_S A s.heap H locs → (rest.map fun v => v.category).sum ≤ 8 → z + bud ≤ B → ls.size = nL →
    vx_Met l yn ws rm (PcOf D G A ρ n M vals) (QcOf D G A ρ rs) (XCOf D G A ρ rs) rm.cells rm.slots A → vx_Run p l e R s m args below meth c H locs z z bud bud (F0 m pc ls (vals.reverse ++ rest)) rest (QcOf D G A ρ rs vals.toArray) (XCOf D G A ρ rs) A
theorem cons_of {vals : List Value} {na : Nat} (h : vals.length = na + 1) : ∃ v As, vals = v :: As ∧ As.length = na := by
  cases vals with
  | nil => simp at h
  | cons v As => exact ⟨v, As, rfl, by simpa using h⟩
theorem recv_9 (C : Cx cc own Ts p l s m args meth c D G A nL) {ρ : List Nat} {n : Nat} {M : Mem} {H : Heap} {as : List AV} {v : Value} {As : List Value} {ci N : Nat} {Cn : String} {T : u_T} (hc : vwCl[ci]? = some (Cn, T, N)) (hv : czs G ρ as (v :: As)) (hg : gV ci as M = true) (hM : memR D s G A ρ n M H) : ∃ b, v = .ref b ∧ ∃ cellB : Cell, H[b]? = some cellB ∧ cellB.vm.isStatics = false ∧ s.vm.findClass Cn = some cellB.cls := by
  cases as with
  | nil => exact hv.elim
  | cons a as =>
    rcases a with x | a | x | o | i | w | k | k
    · cases hg
    · obtain ⟨⟨b, hb, rfl⟩, -⟩ := hv
      obtain ⟨ws, e0, g1, g2, g3, -⟩ := mem_at hM hb
      refine ⟨b, rfl, ?_⟩
      unfold gV at hg
      cases hcel : tget 9 M a with
      | inl q =>
        rw [hcel] at g2
        simp only [hcel] at hg
        obtain ⟨vs, rfl, -⟩ := g2
        rw [Nat.eq_of_beq_eq_true hg] at g1
        exact va_recv C.2.2.2.2.2.1 g3 hc g1
      | inr q => simp only [hcel] at hg; cases hg
    all_goals cases hg
theorem run_V (C : Cx cc own Ts p l s m args meth c D G A nL) (hF : Fx G A s s.heap) {yn : MethodName} {ws : List Cond} {rm : Room} {Cn : String} {bytes : ByteArray} {maxL index ci N na bud B : Nat} {T : u_T} {ret : Option FieldType} (hc : vwCl[ci]? = some (Cn, T, N)) (cw : CallW R s args own Cn index yn bytes maxL ret ws rm bud bud na) (hrm : rm.cells = bud ∧ rm.slots = bud) (hB : R.cells = B ∧ R.slots = B) (hdg : decode cc pc = .ok (.invokevirtual index, 3)) : RunOK p l e R s m args below meth c D G A nL yn ws rm (gV ci) (na + 1) bud B pc := by
  intro ρ n M as rs H locs z ls vals rest hl hv hg hM hS hcat hz hls hMet
  obtain ⟨v, As, rfl, hAs⟩ := cons_of hl
  obtain ⟨b, rfl, hrecv⟩ := recv_9 C hc hv hg hM
  rw [hrm.1, hrm.2] at hMet
  exact va_runV ⟨C.1, C.2.1, C.2.2.1, C.2.2.2.1, C.2.2.2.2.1⟩ hMet cw ⟨Pc_blind, hrecv, pre_of C hF hM hS⟩ rfl hAs hls (by simp) (lv_room (m := m) (pc := pc) (ls := ls) (rest := rest) hcat) hdg ⟨by omega, by omega⟩
theorem run_XV (C : Cx cc own Ts p l s m args meth c D G A nL) (hF : Fx G A s s.heap) {yn : MethodName} {ws : List Cond} {rm : Room} {Cn : String} {bytes : ByteArray} {maxL index ci N na bud B : Nat} {T : u_T} {ret : Option FieldType} (hc : vwCl[ci]? = some (Cn, T, N)) (cw : CallW R s args own Cn index yn bytes maxL ret ws rm bud bud na) (hrm : rm.cells = bud ∧ rm.slots = bud) (hB : R.cells = B ∧ R.slots = B) (hdg : decode cc pc = .ok (.invokevirtual index, 3)) : RunXOK p l e R s m args below meth c D G A nL yn ws rm (gV ci) (na + 1) bud B pc := by
  intro ρ n M as rs H locs z ls vals rest hl hv hg hM hS hcat hz hls hMet
  obtain ⟨v, As, rfl, hAs⟩ := cons_of hl
  obtain ⟨b, rfl, hrecv⟩ := recv_9 C hc hv hg hM
  rw [hrm.1, hrm.2] at hMet
  exact vx_runV ⟨C.1, C.2.1, C.2.2.1, C.2.2.2.1, C.2.2.2.2.1⟩ hMet cw ⟨Pc_blind, hrecv, pre_of C hF hM hS⟩ rfl hAs hls (by simp) (lv_room (m := m) (pc := pc) (ls := ls) (rest := rest) hcat) hdg ⟨by omega, by omega⟩
theorem run_S (C : Cx cc own Ts p l s m args meth c D G A nL) (hF : Fx G A s s.heap) {yn : MethodName} {ws : List Cond} {rm : Room} {bytes : ByteArray} {maxL index na bud B : Nat} {ret : Option FieldType} (cw : CallB R s args own index yn bytes maxL ret ws rm bud bud na ∧ (Cond.static yn).before args s = true) (hrm : rm.cells = bud ∧ rm.slots = bud) (hB : R.cells = B ∧ R.slots = B) (hdg : decode cc pc = .ok (.invokestatic index, 3)) : RunOK p l e R s m args below meth c D G A nL yn ws rm gS na bud B pc := by
  intro ρ n M as rs H locs z ls vals rest hl hv hg hM hS hcat hz hls hMet
  rw [hrm.1, hrm.2] at hMet
  exact va_runS ⟨C.1, C.2.1, C.2.2.1, C.2.2.2.1, C.2.2.2.2.1⟩ hMet cw ⟨Pc_blind, pre_of C hF hM hS⟩ rfl hl hls rfl (lv_room (m := m) (pc := pc) (ls := ls) (rest := rest) hcat) hdg ⟨by omega, by omega⟩
theorem run_SW (C : Cx cc own Ts p l s m args meth c D G A nL) (hF : Fx G A s s.heap) {yn : MethodName} {ws : List Cond} {rm : Room} {bytes : ByteArray} {maxL index na bud B : Nat} {ret : Option FieldType} {hh : List (Nat × Nat × Nat × Nat)} (cw : vx_CSW R s args own index yn bytes maxL ret hh ws rm bud bud na) (hrm : rm.cells = bud ∧ rm.slots = bud) (hB : R.cells = B ∧ R.slots = B) (hdg : decode cc pc = .ok (.invokestatic index, 3)) : RunOK p l e R s m args below meth c D G A nL yn ws rm gS na bud B pc := by
  intro ρ n M as rs H locs z ls vals rest hl hv hg hM hS hcat hz hls hMet
  rw [hrm.1, hrm.2] at hMet
  exact vx_runSW ⟨C.1, C.2.1, C.2.2.1, C.2.2.2.1, C.2.2.2.2.1⟩ hMet cw ⟨Pc_blind, pre_of C hF hM hS⟩ rfl hl hls rfl (lv_room (m := m) (pc := pc) (ls := ls) (rest := rest) hcat) hdg ⟨by omega, by omega⟩
theorem gI_ref {ρ : List Nat} {as : List AV} {v : Value} {As : List Value} {M : Mem} (hv : czs G ρ as (v :: As)) (hg : gI as M = true) : ∃ b, v = .ref b := by
  cases as with
  | nil => exact hv.elim
  | cons a as =>
    rcases a with x | a | x | o | i | w | k | k
    · cases hg
    · obtain ⟨⟨b, -, rfl⟩, -⟩ := hv
      exact ⟨b, rfl⟩
    all_goals cases hg
theorem run_I (C : Cx cc own Ts p l s m args meth c D G A nL) (hF : Fx G A s s.heap) {yn : MethodName} {ws : List Cond} {rm : Room} {bytes : ByteArray} {maxL index na bud B : Nat} (cw : CallB R s args own index yn bytes maxL none ws rm bud bud na ∧ yn.name = "<init>" ∧ (Cond.instanceMethod yn).before args s = true) (hrm : rm.cells = bud ∧ rm.slots = bud) (hB : R.cells = B ∧ R.slots = B) (hdg : decode cc pc = .ok (.invokespecial index, 3)) : RunOK p l e R s m args below meth c D G A nL yn ws rm gI (na + 1) bud B pc := by
  intro ρ n M as rs H locs z ls vals rest hl hv hg hM hS hcat hz hls hMet
  obtain ⟨v, As, rfl, hAs⟩ := cons_of hl
  obtain ⟨b, rfl⟩ := gI_ref hv hg
  rw [hrm.1, hrm.2] at hMet
  exact va_runI ⟨C.1, C.2.1, C.2.2.1, C.2.2.2.1, C.2.2.2.2.1⟩ hMet cw ⟨Pc_blind, pre_of C hF hM hS⟩ rfl hAs hls (by simp) (lv_room (m := m) (pc := pc) (ls := ls) (rest := rest) hcat) hdg ⟨by omega, by omega⟩
theorem run_IN (C : Cx cc own Ts p l s m args meth c D G A nL) (hF : Fx G A s s.heap) {yn : MethodName} {ws : List Cond} {rm : Room} {bytes : ByteArray} {host : String} {maxL index na bud B : Nat} (cw : va_CN R s args own index yn host bytes maxL none ws rm bud bud na ∧ yn.name = "<init>" ∧ (Cond.instanceMethod yn).before args s = true) (hrm : rm.cells = bud ∧ rm.slots = bud) (hB : R.cells = B ∧ R.slots = B) (hdg : decode cc pc = .ok (.invokespecial index, 3)) : RunOK p l e R s m args below meth c D G A nL yn ws rm gI (na + 1) bud B pc := by
  intro ρ n M as rs H locs z ls vals rest hl hv hg hM hS hcat hz hls hMet
  obtain ⟨v, As, rfl, hAs⟩ := cons_of hl
  obtain ⟨b, rfl⟩ := gI_ref hv hg
  rw [hrm.1, hrm.2] at hMet
  exact va_runIN ⟨C.1, C.2.1, C.2.2.1, C.2.2.2.1, C.2.2.2.2.1⟩ hMet cw ⟨Pc_blind, pre_of C hF hM hS⟩ rfl hAs hls (by simp) (lv_room (m := m) (pc := pc) (ls := ls) (rest := rest) hcat) hdg ⟨by omega, by omega⟩
theorem ok_call (C : Cx cc own Ts p l s m args meth c D G A nL) {g : List AV → Mem → Bool} {y na bud B : Nat} {yn : MethodName} {ws : List Cond} {rm : Room} (hcall : ∀ E n as M rs, call y E n as M = some rs → MOK l D G A yn ws rm E n as M rs) (hrun : RunOK p l e R s m args below meth c D G A nL yn ws rm g na bud B pc) (hK : KOK p l e R s m args below meth c Q D G A ρ0 nL Pe (pc + 3) K) : KOK p l e R s m args below meth c Q D G A ρ0 nL Pe pc (op_call g y na bud B call K) := by
  intro E n z L S M rs h he ρ H locs ls st h0 hE hM hS hL hs
  unfold op_call at h
  obtain ⟨h1, h⟩ := gd_some h
  obtain ⟨h2, h⟩ := gd_some h
  obtain ⟨h3, h⟩ := gd_some h
  obtain ⟨h4, h⟩ := gd_some h
  cases hc : call y E n (spl na [] S).1 M with
  | none => simp only [hc] at h; cases h
  | some rs1 =>
    simp only [hc] at h
    have hall := joinR_ok h
    have hmok := hcall E n _ M rs1 hc
    obtain ⟨vals, rest, rfl, hlen, hv, hr⟩ := spl_spec na [] S [] st (Nat.le_of_ble_eq_true h1) trivial hs
    rw [List.append_nil] at hv
    have hk : ∀ r ∈ rs1, r.1.1 < 2 := by
      intro r hr
      obtain ⟨rs', g1, -⟩ := hall r hr
      obtain ⟨⟨k, x⟩, E', v', S', L', M', n', z'⟩ := r
      rcases k with _ | _ | k
      · exact Nat.zero_lt_succ _
      · exact Nat.lt_succ_self _
      · cases g1
    have hrun' := hrun ρ n M _ rs1 H locs z ls vals rest hlen hv h4 hM hS (Nat.le_trans (czs_cat hr) (Nat.le_of_ble_eq_true h2)) (Nat.le_of_ble_eq_true h3) hL.1 (vx_toMet hk (hmok ρ vals hE hv))
    intro T hT X
    obtain ⟨v, st₀, t, T', L', g0, X', gL, e1, e2, hq, stp⟩ := hrun' T hT X
    obtain ⟨tg, a1, b1⟩ := call_ret C hS (pc' := pc + 3) (ls := ls) (rest := rest) g0 X' gL e1 e2 hq (fun r ρ' H1 locs1 hr1 hv1 hp hE' hM' hS' => by
      obtain ⟨rs', g1, g2⟩ := hall r hr1
      obtain ⟨⟨k, x⟩, E', v', S', L', M', n', z'⟩ := r
      rcases hv1 with ⟨hk0, x, rfl, hx⟩ | ⟨hk1, rfl⟩
      · have hk0' : k = 0 := hk0
        subst hk0'
        have g1' : fN n' (fun n' => K E' n' (z + bud) L (v' :: (spl na [] S).2) M') = some rs' := g1
        rw [fN_eq] at g1'
        exact hK E' n' (z + bud) L _ M' rs' g1' (fun q hq => he q (g2 q hq)) ρ' H1 locs1 ls _ (h0.trans hp) hE' hM' hS' (locR_mono hp hL) ⟨hx, czs_mono hp hr⟩
      · have hk1' : k = 1 := hk1
        subst hk1'
        have g1' : fN n' (fun n' => K E' n' (z + bud) L (spl na [] S).2 M') = some rs' := g1
        rw [fN_eq] at g1'
        exact hK E' n' (z + bud) L _ M' rs' g1' (fun q hq => he q (g2 q hq)) ρ' H1 locs1 ls _ (h0.trans hp) hE' hM' hS' (locR_mono hp hL) (czs_mono hp hr))
    exact ⟨tg, stp tg a1, b1⟩
theorem ok_callX (C : Cx cc own Ts p l s m args meth c D G A nL) {g : List AV → Mem → Bool} {y na bud B : Nat} {yn : MethodName} {ws : List Cond} {rm : Room} (hcall : ∀ E n as M rs, call y E n as M = some rs → MOK l D G A yn ws rm E n as M rs) (hrun : RunXOK p l e R s m args below meth c D G A nL yn ws rm g na bud B pc)
    (hQ : Q = vx_MQ below (QcOf D G A ρ0 RS) (XCOf D G A ρ0 RS) args s B B A) (hPe : ∀ r, Pe r → r ∈ RS) (hlocks : meth.locks = false) (hout : c.exceptionTable.toList = tableOf []) (hK : KOK p l e R s m args below meth c Q D G A ρ0 nL Pe (pc + 3) K) : KOK p l e R s m args below meth c Q D G A ρ0 nL Pe pc (op_callX g y na bud B call K) := by
  intro E n z L S M rs h he ρ H locs ls st h0 hE hM hS hL hs
  unfold op_callX at h
  obtain ⟨h1, h⟩ := gd_some h
  obtain ⟨h2, h⟩ := gd_some h
  obtain ⟨h3, h⟩ := gd_some h
  obtain ⟨h4, h⟩ := gd_some h
  cases hc : call y E n (spl na [] S).1 M with
  | none => simp only [hc] at h; cases h
  | some rs1 =>
    simp only [hc] at h
    have hall := joinR_ok h
    have hmok := hcall E n _ M rs1 hc
    obtain ⟨vals, rest, rfl, hlen, hv, hr⟩ := spl_spec na [] S [] st (Nat.le_of_ble_eq_true h1) trivial hs
    rw [List.append_nil] at hv
    have hrun' := hrun ρ n M _ rs1 H locs z ls vals rest hlen hv h4 hM hS (Nat.le_trans (czs_cat hr) (Nat.le_of_ble_eq_true h2)) (Nat.le_of_ble_eq_true h3) hL.1 (hmok ρ vals hE hv)
    intro T hT X
    rcases hrun' T hT X with ⟨v, st₀, t, T', L', g0, X', gL, e1, e2, hq, stp⟩ | ⟨q, st₀, t, T', L', E', ce, g0, X', gL, e1, e2, hx, hce, hcv, hcl, stp⟩
    · obtain ⟨tg, a1, b1⟩ := call_ret C hS (pc' := pc + 3) (ls := ls) (rest := rest) g0 X' gL e1 e2 hq (fun r ρ' H1 locs1 hr1 hv1 hp hE' hM' hS' => by
        obtain ⟨rs', g1, g2⟩ := hall r hr1
        obtain ⟨⟨k, x⟩, E', v', S', L', M', n', z'⟩ := r
        rcases hv1 with ⟨hk0, x, rfl, hx⟩ | ⟨hk1, rfl⟩
        · have hk0' : k = 0 := hk0
          subst hk0'
          have g1' : fN n' (fun n' => K E' n' (z + bud) L (v' :: (spl na [] S).2) M') = some rs' := g1
          rw [fN_eq] at g1'
          exact hK E' n' (z + bud) L _ M' rs' g1' (fun q hq => he q (g2 q hq)) ρ' H1 locs1 ls _ (h0.trans hp) hE' hM' hS' (locR_mono hp hL) ⟨hx, czs_mono hp hr⟩
        · have hk1' : k = 1 := hk1
          subst hk1'
          have g1' : fN n' (fun n' => K E' n' (z + bud) L (spl na [] S).2 M') = some rs' := g1
          rw [fN_eq] at g1'
          exact hK E' n' (z + bud) L _ M' rs' g1' (fun q hq => he q (g2 q hq)) ρ' H1 locs1 ls _ (h0.trans hp) hE' hM' hS' (locR_mono hp hL) (czs_mono hp hr))
      exact ⟨tg, stp tg a1, b1⟩
    · obtain ⟨⟨r, hr1, hk2, hEx, ρ', hp, hE', hM'⟩, hF⟩ := hx
      obtain ⟨k1, k2, k3⟩ := vx_keep (A0 := A) (A1 := A) g0 e1 hS (fun _ _ h => h) (fun _ h => h) gL hF
      obtain ⟨rs', g1, g2⟩ := hall r hr1
      obtain ⟨⟨k, x⟩, Ev, v', S', Lv, M', n', z'⟩ := r
      have hk2' : k = 2 := hk2
      subst hk2'
      have g1' : fN n' (fun n' => (some [((2, x), Ev, vW 3, [], [], M', n', z + bud)] : OR)) = some rs' := g1
      rw [fN_eq] at g1'
      have hmem : ((2, x), Ev, vW 3, [], [], M', n', z + bud) ∈ RS := hPe _ (he _ (g2 _ (by cases g1'; exact List.mem_cons_self)))
      have hal : t.vm.Alike s.vm := by rw [← e2]; exact X'.warmed.alike.symm
      have hz := Nat.le_of_ble_eq_true h3
      subst hQ
      obtain ⟨tg, a1, b1⟩ := vx_out (below := below) (Qc := QcOf D G A ρ0 RS) (XC := XCOf D G A ρ0 RS) (pc := pc) (ls := ls) (rest := rest) (E := E') (ce := ce) (q := q) (H := T'.heap) (locs := locs ++ L') (cells := z + bud) (slots := z + bud) (mc := B) (ms := B) (free := A) (meth := meth) (fun x hx => by rw [hout] at hx; cases hx) hlocks (by rw [e1]; exact hce) hcv hcl (fun t2 ht2 hal2 => ⟨⟨_, hmem, rfl, hEx, ρ', h0.trans hp, hE', by rw [ht2, e1]; exact memR_moved (hal.trans hal2) hM'⟩, k3.F ht2⟩) k3.2.2 hz hz T' rfl X'
      exact ⟨tg, stp.trans a1, b1⟩
theorem ok_ret (C : Cx cc own Ts p l s m args meth c D G A nL) {f : AV → Bool} {B : Nat} {ty : FieldType} (hQ : Q = vx_MQ below (QcOf D G A ρ0 RS) (XCOf D G A ρ0 RS) args s B B A) (hPe : ∀ r, Pe r → r ∈ RS) (hlocks : meth.locks = false) (hr : meth.sig.returnType = some ty) (hf : ∀ {ρ a v}, cz G ρ a v → f a = true → ∃ x, v = .int x ∧ narrow ty (.int x) = .int x) (hdg : decode cc pc = .ok (.ireturn, 1)) {j : Jmp} : KOK p l e R s m args below meth c Q D G A ρ0 nL Pe pc (tm_ret f B call j) := by
  intro E n z L S M rs h he ρ H locs ls st h0 hE hM hS hL hs
  rcases S with _ | ⟨a, S⟩
  · cases h
  obtain ⟨u, st, rfl, hu, hs'⟩ := czs_cons hs
  rcases S with _ | ⟨b, S⟩
  · rcases st with _ | ⟨w, st⟩
    · obtain ⟨h1, h2⟩ := gd_some (show gd (f a) (gd (Nat.ble z B) (some [((0, 0), E, a, [], [], M, n, z)])) = some rs from h)
      obtain ⟨h3, h4⟩ := gd_some h2
      cases h4
      have hz := Nat.le_of_ble_eq_true h3
      obtain ⟨x, rfl, hn⟩ := hf hu h1
      subst hQ
      refine W.widen hz hz (vx_ret (W.zret C.1 C.2.1 hr hn (fun t ht hW => ⟨⟨_, hPe _ (he _ List.mem_cons_self), _, ρ, rfl, Or.inl ⟨rfl, _, rfl, hu⟩, h0, hE, by rw [ht]; exact memR_moved hW.alike hM⟩, hS.F ht⟩) hS.2.2 hdg hlocks))
    · exact hs'.elim
  · cases h
end CALL2
