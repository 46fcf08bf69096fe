/-! words, names, rooms of the methods -/
noncomputable def ALL : List Cond := lw_tbl.filter goodWord
theorem all_t {w : Cond} {i : Nat} (h : tables_1[i]? = some w) (g : goodWord w = true) : w ∈ ALL := List.mem_filter.mpr ⟨List.mem_append_right _ (List.mem_of_getElem? h), g⟩
theorem all_t1 {w : Cond} {i : Nat} (h9 : tables_1_1[i]? = some w) (g : goodWord w = true) : w ∈ ALL := by
  have h : w ∈ tables_1_1 := List.mem_of_getElem? h9
  exact List.mem_filter.mpr ⟨List.mem_append_right _ (show w ∈ tables_1 from List.mem_append_left _ h), g⟩
theorem all_t2 {w : Cond} {i : Nat} (h9 : tables_1_2[i]? = some w) (g : goodWord w = true) : w ∈ ALL := by
  have h : w ∈ tables_1_2 := List.mem_of_getElem? h9
  exact List.mem_filter.mpr ⟨List.mem_append_right _ (show w ∈ tables_1 from List.mem_append_right _ (List.mem_append_left _ h)), g⟩
theorem all_t3 {w : Cond} {i : Nat} (h9 : tables_1_3[i]? = some w) (g : goodWord w = true) : w ∈ ALL := by
  have h : w ∈ tables_1_3 := List.mem_of_getElem? h9
  exact List.mem_filter.mpr ⟨List.mem_append_right _ (show w ∈ tables_1 from List.mem_append_right _ (List.mem_append_right _ (List.mem_append_left _ h))), g⟩
theorem all_t4 {w : Cond} {i : Nat} (h9 : tables_1_4[i]? = some w) (g : goodWord w = true) : w ∈ ALL := by
  have h : w ∈ tables_1_4 := List.mem_of_getElem? h9
  exact List.mem_filter.mpr ⟨List.mem_append_right _ (show w ∈ tables_1 from List.mem_append_right _ (List.mem_append_right _ (List.mem_append_right _ (List.mem_append_left _ h)))), g⟩
theorem all_t5 {w : Cond} {i : Nat} (h9 : tables_1_5[i]? = some w) (g : goodWord w = true) : w ∈ ALL := by
  have h : w ∈ tables_1_5 := List.mem_of_getElem? h9
  exact List.mem_filter.mpr ⟨List.mem_append_right _ (show w ∈ tables_1 from List.mem_append_right _ (List.mem_append_right _ (List.mem_append_right _ (List.mem_append_right _ (List.mem_append_left _ h))))), g⟩
theorem all_t6 {w : Cond} {i : Nat} (h9 : tables_1_6[i]? = some w) (g : goodWord w = true) : w ∈ ALL := by
  have h : w ∈ tables_1_6 := List.mem_of_getElem? h9
  exact List.mem_filter.mpr ⟨List.mem_append_right _ (show w ∈ tables_1 from List.mem_append_right _ (List.mem_append_right _ (List.mem_append_right _ (List.mem_append_right _ (List.mem_append_right _ (List.mem_append_left _ h)))))), g⟩
theorem all_t7 {w : Cond} {i : Nat} (h9 : tables_1_7[i]? = some w) (g : goodWord w = true) : w ∈ ALL := by
  have h : w ∈ tables_1_7 := List.mem_of_getElem? h9
  exact List.mem_filter.mpr ⟨List.mem_append_right _ (show w ∈ tables_1 from List.mem_append_right _ (List.mem_append_right _ (List.mem_append_right _ (List.mem_append_right _ (List.mem_append_right _ (List.mem_append_right _ (List.mem_append_left _ h))))))), g⟩
theorem all_t8 {w : Cond} {i : Nat} (h9 : tables_1_8[i]? = some w) (g : goodWord w = true) : w ∈ ALL := by
  have h : w ∈ tables_1_8 := List.mem_of_getElem? h9
  exact List.mem_filter.mpr ⟨List.mem_append_right _ (show w ∈ tables_1 from List.mem_append_right _ (List.mem_append_right _ (List.mem_append_right _ (List.mem_append_right _ (List.mem_append_right _ (List.mem_append_right _ (List.mem_append_right _ (List.mem_append_left _ h)))))))), g⟩
theorem all_t9 {w : Cond} {i : Nat} (h9 : tables_1_9[i]? = some w) (g : goodWord w = true) : w ∈ ALL := by
  have h : w ∈ tables_1_9 := List.mem_of_getElem? h9
  exact List.mem_filter.mpr ⟨List.mem_append_right _ (show w ∈ tables_1 from List.mem_append_right _ (List.mem_append_right _ (List.mem_append_right _ (List.mem_append_right _ (List.mem_append_right _ (List.mem_append_right _ (List.mem_append_right _ (List.mem_append_right _ (List.mem_append_left _ h))))))))), g⟩
theorem all_t10 {w : Cond} {i : Nat} (h9 : tables_1_10[i]? = some w) (g : goodWord w = true) : w ∈ ALL := by
  have h : w ∈ tables_1_10 := List.mem_of_getElem? h9
  exact List.mem_filter.mpr ⟨List.mem_append_right _ (show w ∈ tables_1 from List.mem_append_right _ (List.mem_append_right _ (List.mem_append_right _ (List.mem_append_right _ (List.mem_append_right _ (List.mem_append_right _ (List.mem_append_right _ (List.mem_append_right _ (List.mem_append_right _ (h)))))))))), g⟩
theorem all_s {w : Cond} {i : Nat} (h : (k2_sels lw_privs)[i]? = some w) (g : goodWord w = true) : w ∈ ALL := List.mem_filter.mpr ⟨List.mem_append_left _ (List.mem_of_getElem? h), g⟩
theorem al {x w : Cond} (h : w ∈ ALL) : w ∈ x :: ALL := List.mem_cons_of_mem _ h
theorem alL {w : Cond} (h : w ∈ ALL) : w ∈ lw_tbl := (List.mem_filter.mp h).1
theorem gALL {w : Cond} (h : w ∈ ALL) : (w.onTables && w.keeps) = true ∨ ∃ ty, w = .arrayClass ty := good_of_word (List.mem_filter.mp h).2
theorem gwV {Ts : List Cond} {own C : String} {idx : Nat} {y : MethodName} {cw : Cond} (hAL : ∀ {w}, w ∈ ALL → w ∈ Ts) (hl : Cond.methodLink own idx y ∈ ALL) (f : Cond.instanceMethod y ∈ ALL ∧ Cond.selects C y y ∈ ALL ∧ cw ∈ ALL ∧ Cond.initialized C ∈ ALL) : GoodIn Ts (wsV own idx C y (cw :: ALL)) := by
  have key : ∀ w ∈ wsV own idx C y (cw :: ALL), w ∈ ALL := by
    intro w hw
    unfold wsV at hw
    simp only [List.mem_append, List.mem_cons, List.not_mem_nil, or_false] at hw
    rcases hw with (h | h | h | h) | (h | h)
    · rw [h]; exact hl
    · rw [h]; exact f.1
    · rw [h]; exact f.2.1
    · rw [h]; exact f.2.2.2
    · rw [h]; exact f.2.2.1
    · exact h
  exact fun w hw => ⟨hAL (key w hw), gALL (key w hw)⟩
theorem gwS {Ts : List Cond} {own : String} {idx : Nat} {y : MethodName} {cw x : Cond} (hAL : ∀ {w}, w ∈ ALL → w ∈ Ts) (hl : Cond.methodLink own idx y ∈ ALL) (f : Cond.static y ∈ ALL ∧ Cond.initialized y.cls ∈ ALL ∧ cw ∈ ALL ∧ x ∈ ALL) : GoodIn Ts (va_wsS own idx y (cw :: ALL)) := by
  have key : ∀ w ∈ va_wsS own idx y (cw :: ALL), w ∈ ALL := by
    intro w hw
    unfold va_wsS at hw
    simp only [List.mem_append, List.mem_cons, List.not_mem_nil, or_false] at hw
    rcases hw with (h | h | h) | (h | h)
    · rw [h]; exact hl
    · rw [h]; exact f.1
    · rw [h]; exact f.2.1
    · rw [h]; exact f.2.2.1
    · exact h
  exact fun w hw => ⟨hAL (key w hw), gALL (key w hw)⟩
theorem gwI {Ts : List Cond} {cw x : Cond} (hAL : ∀ {w}, w ∈ ALL → w ∈ Ts) (f : cw ∈ ALL ∧ x ∈ ALL) : GoodIn Ts (cw :: ALL) := by
  have key : ∀ w ∈ cw :: ALL, w ∈ ALL := by
    intro w hw
    rcases List.mem_cons.mp hw with h | h
    · rw [h]; exact f.1
    · exact h
  exact fun w hw => ⟨hAL (key w hw), gALL (key w hw)⟩
def TOK {α : Type} (P : Nat → α → Prop) (d : Nat) : Nat → TrT α d → Prop := Nat.rec (motive := fun d => Nat → TrT α d → Prop) (fun b t => P b t) (fun d ih b t => ih b t.1 ∧ ih (b + 2 ^ d) t.2) d
theorem TOK_get {α : Type} {P : Nat → α → Prop} : ∀ (d : Nat) (b : Nat) (t : TrT α d), TOK P d b t → ∀ k, k < 2 ^ d → P (b + k) (tget d t k) := by
  intro d
  induction d with
  | zero =>
    intro b t h k hk
    have : k = 0 := by simpa using hk
    rw [this]
    exact h
  | succ d ih =>
    intro b t h k hk
    have e : 2 ^ (d + 1) = 2 ^ d + 2 ^ d := by rw [Nat.pow_succ]; omega
    rw [e] at hk
    obtain ⟨x, y, ht⟩ : ∃ x y : TrT α d, t = (show TrT α (d + 1) from (x, y)) := ⟨(show TrT α d × TrT α d from t).1, (show TrT α d × TrT α d from t).2, rfl⟩
    subst ht
    rw [tget_s]
    obtain ⟨h1, h2⟩ := (show TOK P d b x ∧ TOK P d (b + 2 ^ d) y from h)
    by_cases hk2 : 2 ^ d ≤ k
    · rw [if_pos hk2]
      have := ih (b + 2 ^ d) y h2 (k - 2 ^ d) (by omega)
      rw [show b + 2 ^ d + (k - 2 ^ d) = b + k by omega] at this
      exact this
    · rw [if_neg hk2]
      exact ih b x h1 k (by omega)
theorem tget_out {α : Type} : ∀ (d : Nat) (t : TrT α d) (k : Nat), 2 ^ d ≤ k → tget d t k = tget d t (2 ^ d - 1) := by
  intro d
  induction d with
  | zero => intro t k _; rfl
  | succ d ih =>
    intro t k hk
    have e : 2 ^ (d + 1) = 2 ^ d + 2 ^ d := by rw [Nat.pow_succ]; omega
    have hp : 0 < 2 ^ d := Nat.pos_of_ne_zero (by simp)
    rw [e] at hk
    obtain ⟨x, y, ht⟩ : ∃ x y : TrT α d, t = (show TrT α (d + 1) from (x, y)) := ⟨(show TrT α d × TrT α d from t).1, (show TrT α d × TrT α d from t).2, rfl⟩
    subst ht
    rw [tget_s, tget_s, if_pos (by omega), if_pos (by omega), ih y (k - 2 ^ d) (by omega)]
    congr 1
    omega
noncomputable def blF : Blk := ([], tm_fail)
theorem tree_at {P : Nat → Blk → Prop} (d : Nat) (t : TrT Blk d) (h : TOK P d 0 t) (hf : ∀ b, P b blF) (hl : tget d t (2 ^ d - 1) = blF) (b : Nat) : P b (tget d t b) := by
  by_cases hb : b < 2 ^ d
  · have := TOK_get d 0 t h b hb
    rw [Nat.zero_add] at this
    exact this
  · rw [tget_out d t b (by omega), hl]
    exact hf b
def fuel9 : Nat := 1000000000000
section MXS
variable {bytes : ByteArray} {nL : Nat} {ret : Option FieldType} {hh : List (Nat × Nat × Nat × Nat)} {wsy : List Cond} {rm : Room} {yn : MethodName} {inf : Inf} {p : Program} {l : Launch} {e : Env} {R : Room} {s : State} {m : MethodId} {args : Array Value} {below : List Frame} {meth : Method} {c : Code} {Q : State → Prop} {D : va_G} {G : Gam} {A : Nat → Prop} {ρ0 : List Nat} {RS : List Res} {Pe : Res → Prop} {call : Call}
abbrev MXT (bytes : ByteArray) (nL : Nat) (ret : Option FieldType) (hh : List (Nat × Nat × Nat × Nat)) (wsy : List Cond) (rm : Room) (yn : MethodName) (inf : Inf) (p : Program) (l : Launch) (e : Env) (R : Room) (s : State) (m : MethodId) (args : Array Value) (below : List Frame) (meth : Method) (c : Code) (Q : State → Prop) (D : va_G) (G : Gam) (A : Nat → Prop) (ρ0 : List Nat) (RS : List Res) (Pe : Res → Prop) (call : Call) : Prop := Mx bytes nL ret hh wsy rm yn inf p l e R s m args below meth c Q D G A ρ0 RS Pe call
theorem Mx.hts9 (X : Mx bytes nL ret hh wsy rm yn inf p l e R s m args below meth c Q D G A ρ0 RS Pe call) : ∀ w ∈ wsy, w.before args s = true := X.1.2.2.2.2.1
theorem Mx.hQ9 (X : Mx bytes nL ret hh wsy rm yn inf p l e R s m args below meth c Q D G A ρ0 RS Pe call) : Q = vx_MQ below (QcOf D G A ρ0 RS) (XCOf D G A ρ0 RS) args s rm.cells rm.cells A := X.2.2.2.2.1
theorem Mx.hPe9 (X : Mx bytes nL ret hh wsy rm yn inf p l e R s m args below meth c Q D G A ρ0 RS Pe call) : ∀ r, Pe r → r ∈ RS := X.2.2.2.2.2.1
theorem Mx.lk9 (X : Mx bytes nL ret hh wsy rm yn inf p l e R s m args below meth c Q D G A ρ0 RS Pe call) : meth.locks = false := X.2.2.2.2.2.2.1
theorem Mx.ht9 (X : Mx bytes nL ret hh wsy rm yn inf p l e R s m args below meth c Q D G A ρ0 RS Pe call) : c.exceptionTable.toList = tableOf hh := X.2.2.2.2.2.2.2.1
theorem Mx.rt9 (X : Mx bytes nL ret hh wsy rm yn inf p l e R s m args below meth c Q D G A ρ0 RS Pe call) : meth.sig.returnType = ret := X.2.2.2.2.2.2.2.2.1
theorem Mx.nm9 (X : Mx bytes nL ret hh wsy rm yn inf p l e R s m args below meth c Q D G A ρ0 RS Pe call) : meth.name = yn.name := X.2.2.2.2.2.2.2.2.2.1
theorem Mx.st9 (X : Mx bytes nL ret hh wsy rm yn inf p l e R s m args below meth c Q D G A ρ0 RS Pe call) : l.stackTraces = false := X.2.2.2.2.2.2.2.2.2.2.1
end MXS
section FXS
variable {G : Gam} {A : Nat → Prop} {U : State} {H : Heap}
theorem Fx.nest9 (h : Fx G A U H) : ∀ w ∈ nestW, va_Nw (.methodLinkNest w.1 w.2.1 w.2.2.1 w.2.2.2) U := h.2.2.2.2.2.2.1
theorem Fx.cast9 (h : Fx G A U H) : ∀ w ∈ castW, va_Nw (.castable w.1 w.2) U := h.2.2.2.2.2.2.2.1
theorem Fx.decl9 (h : Fx G A U H) : ∀ w ∈ declW, va_Nw (.declares w) U := h.2.2.2.2.2.2.2.2.1
theorem Fx.ao9 (h : Fx G A U H) : ∀ w ∈ aoW, va_AO w U := h.2.2.2.2.2.2.2.2.2.1
theorem Fx.nc9 (h : Fx G A U H) : ∀ w ∈ ncW, va_Nc w.1 w.2 U := h.2.2.2.2.2.2.2.2.2.2
end FXS
noncomputable def pre9 (X : String) : List Cond := Bundle.throwableAtoms ++ Bundle.throwableSAtoms ++ Bundle.chainSAtoms X nm2
noncomputable def tl9 (X : String) : List Cond := ((Bundle.ownAtoms "" 0 X nm2).drop (pre9 X).length).tail
theorem own9 (own : String) (ic : Nat) (X : String) : Bundle.ownAtoms own ic X nm2 = pre9 X ++ (.methodLink own ic (Bundle.initS X) :: tl9 X) := by
  unfold tl9
  have e : Bundle.ownAtoms "" 0 X nm2 = pre9 X ++ (.methodLink "" 0 (Bundle.initS X) :: ((Bundle.ownAtoms own ic X nm2).drop (pre9 X).length).tail) := by
    unfold Bundle.ownAtoms pre9
    rw [List.drop_left]
    rfl
  rw [e, List.drop_left]
  unfold Bundle.ownAtoms pre9
  rw [List.drop_left]
  rfl
def okw9 (w : Cond) : Bool := (decide (w ∈ lw_tbl) && goodWord w) || (decide (w ∈ castW.map fun q => Cond.castable q.1 q.2) || decide (w ∈ declW.map fun q => Cond.declares q))
set_option maxRecDepth 100000 in
theorem rest9_0 : ((pre9 (excN 0) ++ tl9 (excN 0)).filter vx_no).all okw9 = true := by decide +kernel
theorem hat9_0 {Ts : List Cond} {args : Array Value} {s : State} {G : Gam} {A : Nat → Prop} {own : String} {ic : Nat} (hts : ∀ w ∈ Ts, w.before args s = true) (hAL : ∀ {w}, w ∈ ALL → w ∈ Ts) (hF : Fx G A s s.heap) (hl : Cond.methodLink own ic (Bundle.initS (excN 0)) ∈ Ts) : ∀ w ∈ vx_atS own ic (excN 0) nm2, w.before args s = true := by
  intro w hw
  unfold vx_atS at hw
  rw [own9] at hw
  obtain ⟨h1, h2⟩ := List.mem_filter.mp hw
  by_cases hm : w = .methodLink own ic (Bundle.initS (excN 0))
  · rw [hm]; exact hts _ hl
  · have h3 : w ∈ (pre9 (excN 0) ++ tl9 (excN 0)).filter vx_no := by
      refine List.mem_filter.mpr ⟨?_, h2⟩
      rcases List.mem_append.mp h1 with h | h
      · exact List.mem_append_left _ h
      · rcases List.mem_cons.mp h with h | h
        · exact absurd h hm
        · exact List.mem_append_right _ h
    have h4 := List.all_eq_true.mp rest9_0 w h3
    unfold okw9 at h4
    simp only [Bool.or_eq_true, Bool.and_eq_true, decide_eq_true_eq] at h4
    rcases h4 with h | h | h
    · exact hts _ (hAL (List.mem_filter.mpr h))
    · obtain ⟨q, hq, rfl⟩ := List.mem_map.mp h
      exact (hF.cast9 q hq).use rfl
    · obtain ⟨q, hq, rfl⟩ := List.mem_map.mp h
      exact (hF.decl9 q hq).use rfl
set_option maxRecDepth 100000 in
theorem rest9_1 : ((pre9 (excN 1) ++ tl9 (excN 1)).filter vx_no).all okw9 = true := by decide +kernel
theorem hat9_1 {Ts : List Cond} {args : Array Value} {s : State} {G : Gam} {A : Nat → Prop} {own : String} {ic : Nat} (hts : ∀ w ∈ Ts, w.before args s = true) (hAL : ∀ {w}, w ∈ ALL → w ∈ Ts) (hF : Fx G A s s.heap) (hl : Cond.methodLink own ic (Bundle.initS (excN 1)) ∈ Ts) : ∀ w ∈ vx_atS own ic (excN 1) nm2, w.before args s = true := by
  intro w hw
  unfold vx_atS at hw
  rw [own9] at hw
  obtain ⟨h1, h2⟩ := List.mem_filter.mp hw
  by_cases hm : w = .methodLink own ic (Bundle.initS (excN 1))
  · rw [hm]; exact hts _ hl
  · have h3 : w ∈ (pre9 (excN 1) ++ tl9 (excN 1)).filter vx_no := by
      refine List.mem_filter.mpr ⟨?_, h2⟩
      rcases List.mem_append.mp h1 with h | h
      · exact List.mem_append_left _ h
      · rcases List.mem_cons.mp h with h | h
        · exact absurd h hm
        · exact List.mem_append_right _ h
    have h4 := List.all_eq_true.mp rest9_1 w h3
    unfold okw9 at h4
    simp only [Bool.or_eq_true, Bool.and_eq_true, decide_eq_true_eq] at h4
    rcases h4 with h | h | h
    · exact hts _ (hAL (List.mem_filter.mpr h))
    · obtain ⟨q, hq, rfl⟩ := List.mem_map.mp h
      exact (hF.cast9 q hq).use rfl
    · obtain ⟨q, hq, rfl⟩ := List.mem_map.mp h
      exact (hF.decl9 q hq).use rfl
set_option maxRecDepth 100000 in
theorem rest9_2 : ((pre9 (excN 2) ++ tl9 (excN 2)).filter vx_no).all okw9 = true := by decide +kernel
theorem hat9_2 {Ts : List Cond} {args : Array Value} {s : State} {G : Gam} {A : Nat → Prop} {own : String} {ic : Nat} (hts : ∀ w ∈ Ts, w.before args s = true) (hAL : ∀ {w}, w ∈ ALL → w ∈ Ts) (hF : Fx G A s s.heap) (hl : Cond.methodLink own ic (Bundle.initS (excN 2)) ∈ Ts) : ∀ w ∈ vx_atS own ic (excN 2) nm2, w.before args s = true := by
  intro w hw
  unfold vx_atS at hw
  rw [own9] at hw
  obtain ⟨h1, h2⟩ := List.mem_filter.mp hw
  by_cases hm : w = .methodLink own ic (Bundle.initS (excN 2))
  · rw [hm]; exact hts _ hl
  · have h3 : w ∈ (pre9 (excN 2) ++ tl9 (excN 2)).filter vx_no := by
      refine List.mem_filter.mpr ⟨?_, h2⟩
      rcases List.mem_append.mp h1 with h | h
      · exact List.mem_append_left _ h
      · rcases List.mem_cons.mp h with h | h
        · exact absurd h hm
        · exact List.mem_append_right _ h
    have h4 := List.all_eq_true.mp rest9_2 w h3
    unfold okw9 at h4
    simp only [Bool.or_eq_true, Bool.and_eq_true, decide_eq_true_eq] at h4
    rcases h4 with h | h | h
    · exact hts _ (hAL (List.mem_filter.mpr h))
    · obtain ⟨q, hq, rfl⟩ := List.mem_map.mp h
      exact (hF.cast9 q hq).use rfl
    · obtain ⟨q, hq, rfl⟩ := List.mem_map.mp h
      exact (hF.decl9 q hq).use rfl
theorem wd_0 : (Cond.initialized "EchoFairLaw") ∈ ALL := all_t1 (i := 0) rfl rfl
theorem wd_1 : (Cond.initialized "EchoFair") ∈ ALL := all_t1 (i := 1) rfl rfl
theorem wd_2 : (Cond.initialized "EchoFair$Buffer") ∈ ALL := all_t1 (i := 2) rfl rfl
theorem wd_3 : (Cond.initialized "java/lang/Math") ∈ ALL := all_t1 (i := 3) rfl rfl
theorem wd_4 : (Cond.initialized "EchoFair$Season") ∈ ALL := all_t1 (i := 4) rfl rfl
theorem wd_5 : (Cond.initialized "EchoFair$World") ∈ ALL := all_t1 (i := 5) rfl rfl
theorem wd_6 : (Cond.initialized "EchoFair$Echo") ∈ ALL := all_t1 (i := 6) rfl rfl
theorem wd_7 : (Cond.initialized "EchoFair$Valley") ∈ ALL := all_t1 (i := 7) rfl rfl
theorem wd_8 : (Cond.initialized "EchoFair$History") ∈ ALL := all_t1 (i := 8) rfl rfl
theorem wd_9 : (Cond.initialized "EchoFair$Matching") ∈ ALL := all_t1 (i := 9) rfl rfl
theorem wd_10 : (Cond.initialized "EchoFair$Tokens") ∈ ALL := all_t1 (i := 10) rfl rfl
theorem wd_11 : (Cond.initialized "EchoFair$Configuration") ∈ ALL := all_t1 (i := 11) rfl rfl
theorem wd_12 : (Cond.initialized "EchoFair$Commands") ∈ ALL := all_t1 (i := 12) rfl rfl
theorem wd_13 : (Cond.initialized "java/lang/String") ∈ ALL := all_t1 (i := 13) rfl rfl
theorem wd_14 : (Cond.initialized "java/lang/StringLatin1") ∈ ALL := all_t1 (i := 14) rfl rfl
theorem wd_15 : (Cond.initialized "jdk/internal/util/Preconditions") ∈ ALL := all_t1 (i := 15) rfl rfl
theorem wd_17 : (Cond.initialized "java/lang/System") ∈ ALL := all_t1 (i := 17) rfl rfl
theorem wd_18 : (Cond.initialized "EchoFairModel") ∈ ALL := all_t1 (i := 18) rfl rfl
theorem wd_22 : (Cond.initialized "java/lang/IllegalStateException") ∈ ALL := all_t1 (i := 22) rfl rfl
theorem wd_23 : (Cond.initialized "java/lang/IllegalArgumentException") ∈ ALL := all_t1 (i := 23) rfl rfl
theorem wd_24 : (Cond.initialized "java/lang/IndexOutOfBoundsException") ∈ ALL := all_t1 (i := 24) rfl rfl
theorem wd_28 : (Cond.instanceMethod ({ cls := "EchoFair", name := "<init>", desc := "()V" } : MethodName)) ∈ ALL := all_t1 (i := 28) rfl rfl
theorem wd_29 : (Cond.code ({ cls := "EchoFair", name := "<init>", desc := "()V" } : MethodName) prog_1_method_1_code (2 : Nat) (Option.none : Option ClassFile.FieldType)) ∈ ALL := all_t1 (i := 29) rfl rfl
theorem wd_30 : (Cond.methodLink "EchoFair" (1 : Nat) ({ cls := "java/lang/Object", name := "<init>", desc := "()V" } : MethodName)) ∈ ALL := all_t1 (i := 30) rfl rfl
theorem wd_31 : (Cond.instanceMethod ({ cls := "java/lang/Object", name := "<init>", desc := "()V" } : MethodName)) ∈ ALL := all_t1 (i := 31) rfl rfl
theorem wd_32 : (Cond.code ({ cls := "java/lang/Object", name := "<init>", desc := "()V" } : MethodName) object_method_1_code (1 : Nat) (Option.none : Option ClassFile.FieldType)) ∈ ALL := all_t1 (i := 32) rfl rfl
theorem wd_33 : (Cond.classLink "EchoFair" (7 : Nat) "EchoFair$Buffer") ∈ ALL := all_t1 (i := 33) rfl rfl
theorem wd_34 : (Cond.instantiable "EchoFair$Buffer" (2 : Nat)) ∈ ALL := all_t1 (i := 34) rfl rfl
theorem wd_35 : (Cond.methodLink "EchoFair" (11 : Nat) ({ cls := "EchoFair$Buffer", name := "<init>", desc := "(I)V" } : MethodName)) ∈ ALL := all_t1 (i := 35) rfl rfl
theorem wd_36 : (Cond.instanceMethod ({ cls := "EchoFair$Buffer", name := "<init>", desc := "(I)V" } : MethodName)) ∈ ALL := all_t1 (i := 36) rfl rfl
theorem wd_37 : (Cond.code ({ cls := "EchoFair$Buffer", name := "<init>", desc := "(I)V" } : MethodName) prog_2_method_1_code (2 : Nat) (Option.none : Option ClassFile.FieldType)) ∈ ALL := all_t1 (i := 37) rfl rfl
theorem wd_38 : (Cond.methodLink "EchoFair$Buffer" (3 : Nat) ({ cls := "java/lang/Object", name := "<init>", desc := "()V" } : MethodName)) ∈ ALL := all_t1 (i := 38) rfl rfl
theorem wd_39 : (Cond.methodLink "EchoFair$Buffer" (9 : Nat) ({ cls := "java/lang/Math", name := "max", desc := "(II)I" } : MethodName)) ∈ ALL := all_t1 (i := 39) rfl rfl
theorem wd_40 : (Cond.static ({ cls := "java/lang/Math", name := "max", desc := "(II)I" } : MethodName)) ∈ ALL := all_t1 (i := 40) rfl rfl
theorem wd_41 : (Cond.code ({ cls := "java/lang/Math", name := "max", desc := "(II)I" } : MethodName) prog_18_method_65_code (2 : Nat) (Option.some ClassFile.FieldType.int)) ∈ ALL := all_t1 (i := 41) rfl rfl
theorem wd_42 : (Cond.fieldLink "EchoFair$Buffer" (15 : Nat) "EchoFair$Buffer" "bytes" "[B") ∈ ALL := all_t1 (i := 42) rfl rfl
theorem wd_43 : (Cond.fieldLink "EchoFair" (378 : Nat) "EchoFair$Buffer" "bytes" "[B") ∈ ALL := all_t1 (i := 43) rfl rfl
theorem wd_44 : (Cond.fieldLink "EchoFair" (111 : Nat) "EchoFair$Buffer" "length" "I") ∈ ALL := all_t1 (i := 44) rfl rfl
theorem wd_45 : (Cond.fieldLink "EchoFair$Buffer" (21 : Nat) "EchoFair$Buffer" "length" "I") ∈ ALL := all_t1 (i := 45) rfl rfl
theorem wd_46 : (Cond.fieldLink "EchoFair$Tokens" (28 : Nat) "EchoFair$Buffer" "length" "I") ∈ ALL := all_t1 (i := 46) rfl rfl
theorem wd_47 : (Cond.laysFinal "EchoFair$Buffer" "EchoFair$Buffer" "bytes" "[B") ∈ ALL := all_t1 (i := 47) rfl rfl
theorem wd_49 : (Cond.lays "EchoFair$Buffer" "EchoFair$Buffer" "length" "I") ∈ ALL := all_t1 (i := 49) rfl rfl
theorem wd_52 : (Cond.arrayClass ClassFile.FieldType.byte) ∈ ALL := all_t1 (i := 52) rfl rfl
theorem wd_53 : (Cond.classLink "EchoFair" (21 : Nat) "EchoFair$Season") ∈ ALL := all_t1 (i := 53) rfl rfl
theorem wd_54 : (Cond.instantiable "EchoFair$Season" (3 : Nat)) ∈ ALL := all_t1 (i := 54) rfl rfl
theorem wd_56 : (Cond.instanceMethod ({ cls := "EchoFair$Season", name := "<init>", desc := "()V" } : MethodName)) ∈ ALL := all_t1 (i := 56) rfl rfl
theorem wd_57 : (Cond.code ({ cls := "EchoFair$Season", name := "<init>", desc := "()V" } : MethodName) prog_8_method_1_code (1 : Nat) (Option.none : Option ClassFile.FieldType)) ∈ ALL := all_t1 (i := 57) rfl rfl
theorem wd_58 : (Cond.methodLink "EchoFair$Season" (3 : Nat) ({ cls := "java/lang/Object", name := "<init>", desc := "()V" } : MethodName)) ∈ ALL := all_t1 (i := 58) rfl rfl
theorem wd_59 : (Cond.fieldLink "EchoFair$Season" (9 : Nat) "EchoFair$Season" "length" "I") ∈ ALL := all_t1 (i := 59) rfl rfl
theorem wd_60 : (Cond.fieldLink "EchoFair$Configuration" (76 : Nat) "EchoFair$Season" "length" "I") ∈ ALL := all_t1 (i := 60) rfl rfl
theorem wd_61 : (Cond.fieldLink "EchoFair" (161 : Nat) "EchoFair$Season" "length" "I") ∈ ALL := all_t1 (i := 61) rfl rfl
theorem wd_62 : (Cond.fieldLink "EchoFair$Season" (15 : Nat) "EchoFair$Season" "fog" "[I") ∈ ALL := all_t1 (i := 62) rfl rfl
theorem wd_63 : (Cond.fieldLink "EchoFair$Season" (25 : Nat) "EchoFair$Season" "levels" "I") ∈ ALL := all_t1 (i := 63) rfl rfl
theorem wd_64 : (Cond.fieldLink "EchoFair$Configuration" (84 : Nat) "EchoFair$Season" "levels" "I") ∈ ALL := all_t1 (i := 64) rfl rfl
theorem wd_65 : (Cond.lays "EchoFair$Season" "EchoFair$Season" "length" "I") ∈ ALL := all_t1 (i := 65) rfl rfl
theorem wd_67 : (Cond.laysFinal "EchoFair$Season" "EchoFair$Season" "fog" "[I") ∈ ALL := all_t1 (i := 67) rfl rfl
theorem wd_69 : (Cond.lays "EchoFair$Season" "EchoFair$Season" "levels" "I") ∈ ALL := all_t1 (i := 69) rfl rfl
theorem wd_72 : (Cond.arrayClass ClassFile.FieldType.int) ∈ ALL := all_t1 (i := 72) rfl rfl
theorem wd_73 : (Cond.classLink "EchoFair" (28 : Nat) "EchoFair$World") ∈ ALL := all_t1 (i := 73) rfl rfl
theorem wd_74 : (Cond.instantiable "EchoFair$World" (11 : Nat)) ∈ ALL := all_t1 (i := 74) rfl rfl
theorem wd_75 : (Cond.methodLink "EchoFair" (30 : Nat) ({ cls := "EchoFair$World", name := "<init>", desc := "()V" } : MethodName)) ∈ ALL := all_t1 (i := 75) rfl rfl
theorem wd_76 : (Cond.instanceMethod ({ cls := "EchoFair$World", name := "<init>", desc := "()V" } : MethodName)) ∈ ALL := all_t1 (i := 76) rfl rfl
theorem wd_77 : (Cond.code ({ cls := "EchoFair$World", name := "<init>", desc := "()V" } : MethodName) prog_11_method_1_code (2 : Nat) (Option.none : Option ClassFile.FieldType)) ∈ ALL := all_t1 (i := 77) rfl rfl
theorem wd_78 : (Cond.methodLink "EchoFair$World" (3 : Nat) ({ cls := "java/lang/Object", name := "<init>", desc := "()V" } : MethodName)) ∈ ALL := all_t1 (i := 78) rfl rfl
theorem wd_79 : (Cond.classLink "EchoFair$World" (9 : Nat) "EchoFair$Echo") ∈ ALL := all_t1 (i := 79) rfl rfl
theorem wd_81 : (Cond.classLink "EchoFair$World" (17 : Nat) "EchoFair$Valley") ∈ ALL := all_t1 (i := 81) rfl rfl
theorem wd_83 : (Cond.instantiable "EchoFair$Echo" (9 : Nat)) ∈ ALL := all_t1 (i := 83) rfl rfl
theorem wd_85 : (Cond.instanceMethod ({ cls := "EchoFair$Echo", name := "<init>", desc := "()V" } : MethodName)) ∈ ALL := all_t1 (i := 85) rfl rfl
theorem wd_86 : (Cond.code ({ cls := "EchoFair$Echo", name := "<init>", desc := "()V" } : MethodName) prog_5_method_1_code (1 : Nat) (Option.none : Option ClassFile.FieldType)) ∈ ALL := all_t1 (i := 86) rfl rfl
theorem wd_87 : (Cond.methodLink "EchoFair$Echo" (3 : Nat) ({ cls := "java/lang/Object", name := "<init>", desc := "()V" } : MethodName)) ∈ ALL := all_t1 (i := 87) rfl rfl
theorem wd_88 : (Cond.fieldLink "EchoFair$Echo" (15 : Nat) "EchoFair$Echo" "name" "J") ∈ ALL := all_t1 (i := 88) rfl rfl
theorem wd_89 : (Cond.fieldLink "EchoFair$World" (60 : Nat) "EchoFair$Echo" "name" "J") ∈ ALL := all_t1 (i := 89) rfl rfl
theorem wd_90 : (Cond.fieldLink "EchoFair" (427 : Nat) "EchoFair$Echo" "name" "J") ∈ ALL := all_t1 (i := 90) rfl rfl
theorem wd_91 : (Cond.fieldLink "EchoFair$Echo" (28 : Nat) "EchoFair$Echo" "delay" "I") ∈ ALL := all_t1 (i := 91) rfl rfl
theorem wd_92 : (Cond.fieldLink "EchoFair$World" (65 : Nat) "EchoFair$Echo" "delay" "I") ∈ ALL := all_t1 (i := 92) rfl rfl
theorem wd_93 : (Cond.fieldLink "EchoFair$Configuration" (135 : Nat) "EchoFair$Echo" "delay" "I") ∈ ALL := all_t1 (i := 93) rfl rfl
theorem wd_94 : (Cond.fieldLink "EchoFair" (183 : Nat) "EchoFair$Echo" "delay" "I") ∈ ALL := all_t1 (i := 94) rfl rfl
theorem wd_95 : (Cond.fieldLink "EchoFair$Echo" (31 : Nat) "EchoFair$Echo" "repeats" "I") ∈ ALL := all_t1 (i := 95) rfl rfl
theorem wd_96 : (Cond.fieldLink "EchoFair$World" (71 : Nat) "EchoFair$Echo" "repeats" "I") ∈ ALL := all_t1 (i := 96) rfl rfl
theorem wd_97 : (Cond.fieldLink "EchoFair$Configuration" (138 : Nat) "EchoFair$Echo" "repeats" "I") ∈ ALL := all_t1 (i := 97) rfl rfl
theorem wd_98 : (Cond.fieldLink "EchoFair" (188 : Nat) "EchoFair$Echo" "repeats" "I") ∈ ALL := all_t1 (i := 98) rfl rfl
theorem wd_99 : (Cond.fieldLink "EchoFair$Echo" (34 : Nat) "EchoFair$Echo" "reserve" "I") ∈ ALL := all_t1 (i := 99) rfl rfl
theorem wd_100 : (Cond.fieldLink "EchoFair$Configuration" (141 : Nat) "EchoFair$Echo" "reserve" "I") ∈ ALL := all_t1 (i := 100) rfl rfl
theorem wd_101 : (Cond.fieldLink "EchoFair$World" (85 : Nat) "EchoFair$Echo" "reserve" "I") ∈ ALL := all_t1 (i := 101) rfl rfl
theorem wd_102 : (Cond.fieldLink "EchoFair" (191 : Nat) "EchoFair$Echo" "reserve" "I") ∈ ALL := all_t1 (i := 102) rfl rfl
theorem wd_103 : (Cond.fieldLink "EchoFair$Echo" (37 : Nat) "EchoFair$Echo" "resistance" "I") ∈ ALL := all_t1 (i := 103) rfl rfl
theorem wd_104 : (Cond.fieldLink "EchoFair$Configuration" (144 : Nat) "EchoFair$Echo" "resistance" "I") ∈ ALL := all_t1 (i := 104) rfl rfl
theorem wd_105 : (Cond.fieldLink "EchoFair" (194 : Nat) "EchoFair$Echo" "resistance" "I") ∈ ALL := all_t1 (i := 105) rfl rfl
theorem wd_106 : (Cond.fieldLink "EchoFair$Echo" (19 : Nat) "EchoFair$Echo" "savings" "I") ∈ ALL := all_t1 (i := 106) rfl rfl
theorem wd_107 : (Cond.fieldLink "EchoFair" (197 : Nat) "EchoFair$Echo" "savings" "I") ∈ ALL := all_t1 (i := 107) rfl rfl
theorem wd_108 : (Cond.fieldLink "EchoFair$World" (163 : Nat) "EchoFair$Echo" "savings" "I") ∈ ALL := all_t1 (i := 108) rfl rfl
theorem wd_109 : (Cond.fieldLink "EchoFair$Echo" (22 : Nat) "EchoFair$Echo" "unpaid" "I") ∈ ALL := all_t1 (i := 109) rfl rfl
theorem wd_110 : (Cond.fieldLink "EchoFair$World" (136 : Nat) "EchoFair$Echo" "unpaid" "I") ∈ ALL := all_t1 (i := 110) rfl rfl
theorem wd_111 : (Cond.fieldLink "EchoFair" (200 : Nat) "EchoFair$Echo" "unpaid" "I") ∈ ALL := all_t1 (i := 111) rfl rfl
theorem wd_112 : (Cond.fieldLink "EchoFair$Echo" (9 : Nat) "EchoFair$Echo" "employer" "I") ∈ ALL := all_t1 (i := 112) rfl rfl
theorem wd_113 : (Cond.fieldLink "EchoFair$Matching" (74 : Nat) "EchoFair$Echo" "employer" "I") ∈ ALL := all_t1 (i := 113) rfl rfl
theorem wd_114 : (Cond.fieldLink "EchoFair$World" (109 : Nat) "EchoFair$Echo" "employer" "I") ∈ ALL := all_t1 (i := 114) rfl rfl
theorem wd_115 : (Cond.fieldLink "EchoFair" (203 : Nat) "EchoFair$Echo" "employer" "I") ∈ ALL := all_t1 (i := 115) rfl rfl
theorem wd_116 : (Cond.fieldLink "EchoFair$Echo" (25 : Nat) "EchoFair$Echo" "desertions" "I") ∈ ALL := all_t1 (i := 116) rfl rfl
theorem wd_117 : (Cond.fieldLink "EchoFair$World" (169 : Nat) "EchoFair$Echo" "desertions" "I") ∈ ALL := all_t1 (i := 117) rfl rfl
theorem wd_118 : (Cond.fieldLink "EchoFair" (283 : Nat) "EchoFair$Echo" "desertions" "I") ∈ ALL := all_t1 (i := 118) rfl rfl
theorem wd_119 : (Cond.lays "EchoFair$Echo" "EchoFair$Echo" "name" "J") ∈ ALL := all_t1 (i := 119) rfl rfl
theorem wd_121 : (Cond.lays "EchoFair$Echo" "EchoFair$Echo" "delay" "I") ∈ ALL := all_t1 (i := 121) rfl rfl
theorem wd_123 : (Cond.lays "EchoFair$Echo" "EchoFair$Echo" "repeats" "I") ∈ ALL := all_t1 (i := 123) rfl rfl
theorem wd_125 : (Cond.lays "EchoFair$Echo" "EchoFair$Echo" "reserve" "I") ∈ ALL := all_t1 (i := 125) rfl rfl
theorem wd_127 : (Cond.lays "EchoFair$Echo" "EchoFair$Echo" "resistance" "I") ∈ ALL := all_t1 (i := 127) rfl rfl
theorem wd_129 : (Cond.lays "EchoFair$Echo" "EchoFair$Echo" "savings" "I") ∈ ALL := all_t1 (i := 129) rfl rfl
theorem wd_131 : (Cond.lays "EchoFair$Echo" "EchoFair$Echo" "unpaid" "I") ∈ ALL := all_t1 (i := 131) rfl rfl
theorem wd_133 : (Cond.lays "EchoFair$Echo" "EchoFair$Echo" "employer" "I") ∈ ALL := all_t1 (i := 133) rfl rfl
theorem wd_135 : (Cond.lays "EchoFair$Echo" "EchoFair$Echo" "desertions" "I") ∈ ALL := all_t1 (i := 135) rfl rfl
theorem wd_138 : (Cond.instantiable "EchoFair$Valley" (12 : Nat)) ∈ ALL := all_t1 (i := 138) rfl rfl
theorem wd_140 : (Cond.instanceMethod ({ cls := "EchoFair$Valley", name := "<init>", desc := "()V" } : MethodName)) ∈ ALL := all_t1 (i := 140) rfl rfl
theorem wd_141 : (Cond.code ({ cls := "EchoFair$Valley", name := "<init>", desc := "()V" } : MethodName) prog_10_method_1_code (1 : Nat) (Option.none : Option ClassFile.FieldType)) ∈ ALL := all_t1 (i := 141) rfl rfl
theorem wd_142 : (Cond.methodLink "EchoFair$Valley" (3 : Nat) ({ cls := "java/lang/Object", name := "<init>", desc := "()V" } : MethodName)) ∈ ALL := all_t1 (i := 142) rfl rfl
theorem wd_143 : (Cond.fieldLink "EchoFair$Valley" (18 : Nat) "EchoFair$Valley" "name" "J") ∈ ALL := all_t1 (i := 143) rfl rfl
theorem wd_144 : (Cond.fieldLink "EchoFair$World" (64 : Nat) "EchoFair$Valley" "name" "J") ∈ ALL := all_t1 (i := 144) rfl rfl
theorem wd_145 : (Cond.fieldLink "EchoFair" (419 : Nat) "EchoFair$Valley" "name" "J") ∈ ALL := all_t1 (i := 145) rfl rfl
theorem wd_146 : (Cond.fieldLink "EchoFair$Valley" (38 : Nat) "EchoFair$Valley" "width" "I") ∈ ALL := all_t1 (i := 146) rfl rfl
theorem wd_147 : (Cond.fieldLink "EchoFair$World" (68 : Nat) "EchoFair$Valley" "width" "I") ∈ ALL := all_t1 (i := 147) rfl rfl
theorem wd_148 : (Cond.fieldLink "EchoFair$Configuration" (157 : Nat) "EchoFair$Valley" "width" "I") ∈ ALL := all_t1 (i := 148) rfl rfl
theorem wd_149 : (Cond.fieldLink "EchoFair" (210 : Nat) "EchoFair$Valley" "width" "I") ∈ ALL := all_t1 (i := 149) rfl rfl
theorem wd_150 : (Cond.fieldLink "EchoFair$Valley" (41 : Nat) "EchoFair$Valley" "posts" "I") ∈ ALL := all_t1 (i := 150) rfl rfl
theorem wd_151 : (Cond.fieldLink "EchoFair$Matching" (59 : Nat) "EchoFair$Valley" "posts" "I") ∈ ALL := all_t1 (i := 151) rfl rfl
theorem wd_152 : (Cond.fieldLink "EchoFair$Configuration" (160 : Nat) "EchoFair$Valley" "posts" "I") ∈ ALL := all_t1 (i := 152) rfl rfl
theorem wd_153 : (Cond.fieldLink "EchoFair" (215 : Nat) "EchoFair$Valley" "posts" "I") ∈ ALL := all_t1 (i := 153) rfl rfl
theorem wd_154 : (Cond.fieldLink "EchoFair$Valley" (44 : Nat) "EchoFair$Valley" "wage" "I") ∈ ALL := all_t1 (i := 154) rfl rfl
theorem wd_155 : (Cond.fieldLink "EchoFair$World" (82 : Nat) "EchoFair$Valley" "wage" "I") ∈ ALL := all_t1 (i := 155) rfl rfl
theorem wd_156 : (Cond.fieldLink "EchoFair$Configuration" (163 : Nat) "EchoFair$Valley" "wage" "I") ∈ ALL := all_t1 (i := 156) rfl rfl
theorem wd_157 : (Cond.fieldLink "EchoFair" (218 : Nat) "EchoFair$Valley" "wage" "I") ∈ ALL := all_t1 (i := 157) rfl rfl
theorem wd_158 : (Cond.fieldLink "EchoFair$Valley" (47 : Nat) "EchoFair$Valley" "purse" "I") ∈ ALL := all_t1 (i := 158) rfl rfl
theorem wd_159 : (Cond.fieldLink "EchoFair$Configuration" (166 : Nat) "EchoFair$Valley" "purse" "I") ∈ ALL := all_t1 (i := 159) rfl rfl
theorem wd_160 : (Cond.fieldLink "EchoFair$World" (157 : Nat) "EchoFair$Valley" "purse" "I") ∈ ALL := all_t1 (i := 160) rfl rfl
theorem wd_161 : (Cond.fieldLink "EchoFair" (221 : Nat) "EchoFair$Valley" "purse" "I") ∈ ALL := all_t1 (i := 161) rfl rfl
theorem wd_162 : (Cond.fieldLink "EchoFair$Valley" (9 : Nat) "EchoFair$Valley" "staff" "[I") ∈ ALL := all_t1 (i := 162) rfl rfl
theorem wd_163 : (Cond.fieldLink "EchoFair$World" (125 : Nat) "EchoFair$Valley" "staff" "[I") ∈ ALL := all_t1 (i := 163) rfl rfl
theorem wd_164 : (Cond.fieldLink "EchoFair" (227 : Nat) "EchoFair$Valley" "staff" "[I") ∈ ALL := all_t1 (i := 164) rfl rfl
theorem wd_165 : (Cond.fieldLink "EchoFair$Valley" (22 : Nat) "EchoFair$Valley" "staffed" "I") ∈ ALL := all_t1 (i := 165) rfl rfl
theorem wd_166 : (Cond.fieldLink "EchoFair$Matching" (64 : Nat) "EchoFair$Valley" "staffed" "I") ∈ ALL := all_t1 (i := 166) rfl rfl
theorem wd_167 : (Cond.fieldLink "EchoFair$World" (122 : Nat) "EchoFair$Valley" "staffed" "I") ∈ ALL := all_t1 (i := 167) rfl rfl
theorem wd_168 : (Cond.fieldLink "EchoFair" (224 : Nat) "EchoFair$Valley" "staffed" "I") ∈ ALL := all_t1 (i := 168) rfl rfl
theorem wd_169 : (Cond.fieldLink "EchoFair$Valley" (26 : Nat) "EchoFair$Valley" "tested" "I") ∈ ALL := all_t1 (i := 169) rfl rfl
theorem wd_170 : (Cond.fieldLink "EchoFair$Valley" (29 : Nat) "EchoFair$Valley" "desertedBy" "I") ∈ ALL := all_t1 (i := 170) rfl rfl
theorem wd_171 : (Cond.fieldLink "EchoFair$World" (142 : Nat) "EchoFair$Valley" "desertedBy" "I") ∈ ALL := all_t1 (i := 171) rfl rfl
theorem wd_172 : (Cond.fieldLink "EchoFair$Valley" (15 : Nat) "EchoFair$Valley" "served" "[I") ∈ ALL := all_t1 (i := 172) rfl rfl
theorem wd_173 : (Cond.fieldLink "EchoFair$World" (151 : Nat) "EchoFair$Valley" "served" "[I") ∈ ALL := all_t1 (i := 173) rfl rfl
theorem wd_174 : (Cond.fieldLink "EchoFair" (296 : Nat) "EchoFair$Valley" "served" "[I") ∈ ALL := all_t1 (i := 174) rfl rfl
theorem wd_175 : (Cond.fieldLink "EchoFair$Valley" (32 : Nat) "EchoFair$Valley" "replies" "I") ∈ ALL := all_t1 (i := 175) rfl rfl
theorem wd_176 : (Cond.fieldLink "EchoFair$World" (154 : Nat) "EchoFair$Valley" "replies" "I") ∈ ALL := all_t1 (i := 176) rfl rfl
theorem wd_177 : (Cond.fieldLink "EchoFair" (305 : Nat) "EchoFair$Valley" "replies" "I") ∈ ALL := all_t1 (i := 177) rfl rfl
theorem wd_178 : (Cond.fieldLink "EchoFair$Valley" (35 : Nat) "EchoFair$Valley" "paid" "I") ∈ ALL := all_t1 (i := 178) rfl rfl
theorem wd_179 : (Cond.fieldLink "EchoFair$World" (160 : Nat) "EchoFair$Valley" "paid" "I") ∈ ALL := all_t1 (i := 179) rfl rfl
theorem wd_180 : (Cond.fieldLink "EchoFair" (308 : Nat) "EchoFair$Valley" "paid" "I") ∈ ALL := all_t1 (i := 180) rfl rfl
theorem wd_181 : (Cond.lays "EchoFair$Valley" "EchoFair$Valley" "name" "J") ∈ ALL := all_t1 (i := 181) rfl rfl
theorem wd_183 : (Cond.lays "EchoFair$Valley" "EchoFair$Valley" "width" "I") ∈ ALL := all_t1 (i := 183) rfl rfl
theorem wd_185 : (Cond.lays "EchoFair$Valley" "EchoFair$Valley" "posts" "I") ∈ ALL := all_t1 (i := 185) rfl rfl
theorem wd_187 : (Cond.lays "EchoFair$Valley" "EchoFair$Valley" "wage" "I") ∈ ALL := all_t1 (i := 187) rfl rfl
theorem wd_189 : (Cond.lays "EchoFair$Valley" "EchoFair$Valley" "purse" "I") ∈ ALL := all_t1 (i := 189) rfl rfl
theorem wd_191 : (Cond.laysFinal "EchoFair$Valley" "EchoFair$Valley" "staff" "[I") ∈ ALL := all_t1 (i := 191) rfl rfl
theorem wd_193 : (Cond.lays "EchoFair$Valley" "EchoFair$Valley" "staffed" "I") ∈ ALL := all_t1 (i := 193) rfl rfl
theorem wd_195 : (Cond.lays "EchoFair$Valley" "EchoFair$Valley" "tested" "I") ∈ ALL := all_t1 (i := 195) rfl rfl
theorem wd_197 : (Cond.lays "EchoFair$Valley" "EchoFair$Valley" "desertedBy" "I") ∈ ALL := all_t1 (i := 197) rfl rfl
theorem wd_199 : (Cond.laysFinal "EchoFair$Valley" "EchoFair$Valley" "served" "[I") ∈ ALL := all_t1 (i := 199) rfl rfl
theorem wd_201 : (Cond.lays "EchoFair$Valley" "EchoFair$Valley" "replies" "I") ∈ ALL := all_t1 (i := 201) rfl rfl
theorem wd_203 : (Cond.lays "EchoFair$Valley" "EchoFair$Valley" "paid" "I") ∈ ALL := all_t1 (i := 203) rfl rfl
theorem wd_206 : (Cond.fieldLink "EchoFair$World" (11 : Nat) "EchoFair$World" "echoes" "[LEchoFair$Echo;") ∈ ALL := all_t1 (i := 206) rfl rfl
theorem wd_207 : (Cond.fieldLink "EchoFair$Matching" (70 : Nat) "EchoFair$World" "echoes" "[LEchoFair$Echo;") ∈ ALL := all_t1 (i := 207) rfl rfl
theorem wd_208 : (Cond.fieldLink "EchoFair$Configuration" (125 : Nat) "EchoFair$World" "echoes" "[LEchoFair$Echo;") ∈ ALL := all_t1 (i := 208) rfl rfl
theorem wd_209 : (Cond.fieldLink "EchoFair" (276 : Nat) "EchoFair$World" "echoes" "[LEchoFair$Echo;") ∈ ALL := all_t1 (i := 209) rfl rfl
theorem wd_210 : (Cond.fieldLink "EchoFair$World" (19 : Nat) "EchoFair$World" "valleys" "[LEchoFair$Valley;") ∈ ALL := all_t1 (i := 210) rfl rfl
theorem wd_211 : (Cond.fieldLink "EchoFair$Matching" (55 : Nat) "EchoFair$World" "valleys" "[LEchoFair$Valley;") ∈ ALL := all_t1 (i := 211) rfl rfl
theorem wd_212 : (Cond.fieldLink "EchoFair$Configuration" (150 : Nat) "EchoFair$World" "valleys" "[LEchoFair$Valley;") ∈ ALL := all_t1 (i := 212) rfl rfl
theorem wd_213 : (Cond.fieldLink "EchoFair" (235 : Nat) "EchoFair$World" "valleys" "[LEchoFair$Valley;") ∈ ALL := all_t1 (i := 213) rfl rfl
theorem wd_214 : (Cond.fieldLink "EchoFair$World" (25 : Nat) "EchoFair$World" "echoCount" "I") ∈ ALL := all_t1 (i := 214) rfl rfl
theorem wd_215 : (Cond.fieldLink "EchoFair$Configuration" (57 : Nat) "EchoFair$World" "echoCount" "I") ∈ ALL := all_t1 (i := 215) rfl rfl
theorem wd_216 : (Cond.fieldLink "EchoFair$Matching" (67 : Nat) "EchoFair$World" "echoCount" "I") ∈ ALL := all_t1 (i := 216) rfl rfl
theorem wd_217 : (Cond.fieldLink "EchoFair" (133 : Nat) "EchoFair$World" "echoCount" "I") ∈ ALL := all_t1 (i := 217) rfl rfl
theorem wd_218 : (Cond.fieldLink "EchoFair$World" (29 : Nat) "EchoFair$World" "valleyCount" "I") ∈ ALL := all_t1 (i := 218) rfl rfl
theorem wd_219 : (Cond.fieldLink "EchoFair$Matching" (50 : Nat) "EchoFair$World" "valleyCount" "I") ∈ ALL := all_t1 (i := 219) rfl rfl
theorem wd_220 : (Cond.fieldLink "EchoFair$Configuration" (60 : Nat) "EchoFair$World" "valleyCount" "I") ∈ ALL := all_t1 (i := 220) rfl rfl
theorem wd_221 : (Cond.fieldLink "EchoFair" (155 : Nat) "EchoFair$World" "valleyCount" "I") ∈ ALL := all_t1 (i := 221) rfl rfl
theorem wd_222 : (Cond.fieldLink "EchoFair$World" (32 : Nat) "EchoFair$World" "today" "I") ∈ ALL := all_t1 (i := 222) rfl rfl
theorem wd_223 : (Cond.fieldLink "EchoFair" (158 : Nat) "EchoFair$World" "today" "I") ∈ ALL := all_t1 (i := 223) rfl rfl
theorem wd_224 : (Cond.fieldLink "EchoFair$World" (35 : Nat) "EchoFair$World" "made" "I") ∈ ALL := all_t1 (i := 224) rfl rfl
theorem wd_225 : (Cond.fieldLink "EchoFair" (299 : Nat) "EchoFair$World" "made" "I") ∈ ALL := all_t1 (i := 225) rfl rfl
theorem wd_226 : (Cond.fieldLink "EchoFair$World" (38 : Nat) "EchoFair$World" "ended" "I") ∈ ALL := all_t1 (i := 226) rfl rfl
theorem wd_227 : (Cond.fieldLink "EchoFair" (302 : Nat) "EchoFair$World" "ended" "I") ∈ ALL := all_t1 (i := 227) rfl rfl
theorem wd_228 : (Cond.fieldLink "EchoFair$World" (41 : Nat) "EchoFair$World" "moneyAtStart" "I") ∈ ALL := all_t1 (i := 228) rfl rfl
theorem wd_229 : (Cond.fieldLink "EchoFair$Configuration" (169 : Nat) "EchoFair$World" "moneyAtStart" "I") ∈ ALL := all_t1 (i := 229) rfl rfl
theorem wd_230 : (Cond.fieldLink "EchoFair" (311 : Nat) "EchoFair$World" "moneyAtStart" "I") ∈ ALL := all_t1 (i := 230) rfl rfl
theorem wd_231 : (Cond.fieldLink "EchoFair$World" (44 : Nat) "EchoFair$World" "earned" "I") ∈ ALL := all_t1 (i := 231) rfl rfl
theorem wd_232 : (Cond.fieldLink "EchoFair" (314 : Nat) "EchoFair$World" "earned" "I") ∈ ALL := all_t1 (i := 232) rfl rfl
theorem wd_233 : (Cond.fieldLink "EchoFair$World" (47 : Nat) "EchoFair$World" "funded" "I") ∈ ALL := all_t1 (i := 233) rfl rfl
theorem wd_234 : (Cond.fieldLink "EchoFair" (317 : Nat) "EchoFair$World" "funded" "I") ∈ ALL := all_t1 (i := 234) rfl rfl
theorem wd_235 : (Cond.fieldLink "EchoFair$World" (50 : Nat) "EchoFair$World" "trainingCost" "I") ∈ ALL := all_t1 (i := 235) rfl rfl
theorem wd_236 : (Cond.fieldLink "EchoFair" (320 : Nat) "EchoFair$World" "trainingCost" "I") ∈ ALL := all_t1 (i := 236) rfl rfl
theorem wd_237 : (Cond.laysFinal "EchoFair$World" "EchoFair$World" "echoes" "[LEchoFair$Echo;") ∈ ALL := all_t1 (i := 237) rfl rfl
theorem wd_239 : (Cond.laysFinal "EchoFair$World" "EchoFair$World" "valleys" "[LEchoFair$Valley;") ∈ ALL := all_t1 (i := 239) rfl rfl
theorem wd_241 : (Cond.lays "EchoFair$World" "EchoFair$World" "echoCount" "I") ∈ ALL := all_t2 (i := 1) rfl rfl
theorem wd_243 : (Cond.lays "EchoFair$World" "EchoFair$World" "valleyCount" "I") ∈ ALL := all_t2 (i := 3) rfl rfl
theorem wd_245 : (Cond.lays "EchoFair$World" "EchoFair$World" "today" "I") ∈ ALL := all_t2 (i := 5) rfl rfl
theorem wd_247 : (Cond.lays "EchoFair$World" "EchoFair$World" "made" "I") ∈ ALL := all_t2 (i := 7) rfl rfl
theorem wd_249 : (Cond.lays "EchoFair$World" "EchoFair$World" "ended" "I") ∈ ALL := all_t2 (i := 9) rfl rfl
theorem wd_251 : (Cond.lays "EchoFair$World" "EchoFair$World" "moneyAtStart" "I") ∈ ALL := all_t2 (i := 11) rfl rfl
theorem wd_253 : (Cond.lays "EchoFair$World" "EchoFair$World" "earned" "I") ∈ ALL := all_t2 (i := 13) rfl rfl
theorem wd_255 : (Cond.lays "EchoFair$World" "EchoFair$World" "funded" "I") ∈ ALL := all_t2 (i := 15) rfl rfl
theorem wd_257 : (Cond.lays "EchoFair$World" "EchoFair$World" "trainingCost" "I") ∈ ALL := all_t2 (i := 17) rfl rfl
theorem wd_260 : (Cond.classLink "EchoFair" (44 : Nat) "EchoFair$History") ∈ ALL := all_t2 (i := 20) rfl rfl
theorem wd_261 : (Cond.instantiable "EchoFair$History" (3 : Nat)) ∈ ALL := all_t2 (i := 21) rfl rfl
theorem wd_262 : (Cond.methodLink "EchoFair" (46 : Nat) ({ cls := "EchoFair$History", name := "<init>", desc := "()V" } : MethodName)) ∈ ALL := all_t2 (i := 22) rfl rfl
theorem wd_263 : (Cond.instanceMethod ({ cls := "EchoFair$History", name := "<init>", desc := "()V" } : MethodName)) ∈ ALL := all_t2 (i := 23) rfl rfl
theorem wd_264 : (Cond.code ({ cls := "EchoFair$History", name := "<init>", desc := "()V" } : MethodName) prog_6_method_1_code (2 : Nat) (Option.none : Option ClassFile.FieldType)) ∈ ALL := all_t2 (i := 24) rfl rfl
theorem wd_265 : (Cond.methodLink "EchoFair$History" (3 : Nat) ({ cls := "java/lang/Object", name := "<init>", desc := "()V" } : MethodName)) ∈ ALL := all_t2 (i := 25) rfl rfl
theorem wd_266 : (Cond.classLink "EchoFair$History" (9 : Nat) "EchoFair$World") ∈ ALL := all_t2 (i := 26) rfl rfl
theorem wd_268 : (Cond.methodLink "EchoFair$History" (17 : Nat) ({ cls := "EchoFair$World", name := "<init>", desc := "()V" } : MethodName)) ∈ ALL := all_t2 (i := 28) rfl rfl
theorem wd_269 : (Cond.fieldLink "EchoFair$History" (11 : Nat) "EchoFair$History" "worlds" "[LEchoFair$World;") ∈ ALL := all_t2 (i := 29) rfl rfl
theorem wd_270 : (Cond.fieldLink "EchoFair$History" (18 : Nat) "EchoFair$History" "next" "I") ∈ ALL := all_t2 (i := 30) rfl rfl
theorem wd_271 : (Cond.fieldLink "EchoFair$History" (26 : Nat) "EchoFair$History" "count" "I") ∈ ALL := all_t2 (i := 31) rfl rfl
theorem wd_272 : (Cond.fieldLink "EchoFair" (362 : Nat) "EchoFair$History" "count" "I") ∈ ALL := all_t2 (i := 32) rfl rfl
theorem wd_273 : (Cond.laysFinal "EchoFair$History" "EchoFair$History" "worlds" "[LEchoFair$World;") ∈ ALL := all_t2 (i := 33) rfl rfl
theorem wd_275 : (Cond.lays "EchoFair$History" "EchoFair$History" "next" "I") ∈ ALL := all_t2 (i := 35) rfl rfl
theorem wd_277 : (Cond.lays "EchoFair$History" "EchoFair$History" "count" "I") ∈ ALL := all_t2 (i := 37) rfl rfl
theorem wd_280 : (Cond.classLink "EchoFair" (51 : Nat) "EchoFair$Matching") ∈ ALL := all_t2 (i := 40) rfl rfl
theorem wd_281 : (Cond.instantiable "EchoFair$Matching" (6 : Nat)) ∈ ALL := all_t2 (i := 41) rfl rfl
theorem wd_283 : (Cond.instanceMethod ({ cls := "EchoFair$Matching", name := "<init>", desc := "()V" } : MethodName)) ∈ ALL := all_t2 (i := 43) rfl rfl
theorem wd_284 : (Cond.code ({ cls := "EchoFair$Matching", name := "<init>", desc := "()V" } : MethodName) prog_7_method_1_code (1 : Nat) (Option.none : Option ClassFile.FieldType)) ∈ ALL := all_t2 (i := 44) rfl rfl
theorem wd_285 : (Cond.methodLink "EchoFair$Matching" (3 : Nat) ({ cls := "java/lang/Object", name := "<init>", desc := "()V" } : MethodName)) ∈ ALL := all_t2 (i := 45) rfl rfl
theorem wd_286 : (Cond.fieldLink "EchoFair$Matching" (9 : Nat) "EchoFair$Matching" "open" "[I") ∈ ALL := all_t2 (i := 46) rfl rfl
theorem wd_287 : (Cond.fieldLink "EchoFair$Matching" (15 : Nat) "EchoFair$Matching" "keeper" "[I") ∈ ALL := all_t2 (i := 47) rfl rfl
theorem wd_288 : (Cond.fieldLink "EchoFair$Matching" (18 : Nat) "EchoFair$Matching" "room" "[I") ∈ ALL := all_t2 (i := 48) rfl rfl
theorem wd_289 : (Cond.fieldLink "EchoFair$Matching" (21 : Nat) "EchoFair$Matching" "scores" "[I") ∈ ALL := all_t2 (i := 49) rfl rfl
theorem wd_290 : (Cond.fieldLink "EchoFair$Matching" (24 : Nat) "EchoFair$Matching" "queue" "[I") ∈ ALL := all_t2 (i := 50) rfl rfl
theorem wd_291 : (Cond.fieldLink "EchoFair$Matching" (34 : Nat) "EchoFair$Matching" "queued" "I") ∈ ALL := all_t2 (i := 51) rfl rfl
theorem wd_292 : (Cond.laysFinal "EchoFair$Matching" "EchoFair$Matching" "open" "[I") ∈ ALL := all_t2 (i := 52) rfl rfl
theorem wd_294 : (Cond.laysFinal "EchoFair$Matching" "EchoFair$Matching" "keeper" "[I") ∈ ALL := all_t2 (i := 54) rfl rfl
theorem wd_296 : (Cond.laysFinal "EchoFair$Matching" "EchoFair$Matching" "room" "[I") ∈ ALL := all_t2 (i := 56) rfl rfl
theorem wd_298 : (Cond.laysFinal "EchoFair$Matching" "EchoFair$Matching" "scores" "[I") ∈ ALL := all_t2 (i := 58) rfl rfl
theorem wd_300 : (Cond.laysFinal "EchoFair$Matching" "EchoFair$Matching" "queue" "[I") ∈ ALL := all_t2 (i := 60) rfl rfl
theorem wd_302 : (Cond.lays "EchoFair$Matching" "EchoFair$Matching" "queued" "I") ∈ ALL := all_t2 (i := 62) rfl rfl
theorem wd_305 : (Cond.classLink "EchoFair" (58 : Nat) "EchoFair$Tokens") ∈ ALL := all_t2 (i := 65) rfl rfl
theorem wd_306 : (Cond.instantiable "EchoFair$Tokens" (8 : Nat)) ∈ ALL := all_t2 (i := 66) rfl rfl
theorem wd_307 : (Cond.methodLink "EchoFair" (60 : Nat) ({ cls := "EchoFair$Tokens", name := "<init>", desc := "(LEchoFair$Buffer;)V" } : MethodName)) ∈ ALL := all_t2 (i := 67) rfl rfl
theorem wd_308 : (Cond.instanceMethod ({ cls := "EchoFair$Tokens", name := "<init>", desc := "(LEchoFair$Buffer;)V" } : MethodName)) ∈ ALL := all_t2 (i := 68) rfl rfl
theorem wd_309 : (Cond.code ({ cls := "EchoFair$Tokens", name := "<init>", desc := "(LEchoFair$Buffer;)V" } : MethodName) prog_9_method_1_code (2 : Nat) (Option.none : Option ClassFile.FieldType)) ∈ ALL := all_t2 (i := 69) rfl rfl
theorem wd_310 : (Cond.methodLink "EchoFair$Tokens" (3 : Nat) ({ cls := "java/lang/Object", name := "<init>", desc := "()V" } : MethodName)) ∈ ALL := all_t2 (i := 70) rfl rfl
theorem wd_311 : (Cond.fieldLink "EchoFair$Tokens" (15 : Nat) "EchoFair$Tokens" "text" "LEchoFair$Buffer;") ∈ ALL := all_t2 (i := 71) rfl rfl
theorem wd_312 : (Cond.fieldLink "EchoFair$Tokens" (19 : Nat) "EchoFair$Tokens" "place" "I") ∈ ALL := all_t2 (i := 72) rfl rfl
theorem wd_313 : (Cond.fieldLink "EchoFair$Commands" (37 : Nat) "EchoFair$Tokens" "kind" "I") ∈ ALL := all_t2 (i := 73) rfl rfl
theorem wd_314 : (Cond.fieldLink "EchoFair$Configuration" (43 : Nat) "EchoFair$Tokens" "kind" "I") ∈ ALL := all_t2 (i := 74) rfl rfl
theorem wd_315 : (Cond.fieldLink "EchoFair$Tokens" (40 : Nat) "EchoFair$Tokens" "kind" "I") ∈ ALL := all_t2 (i := 75) rfl rfl
theorem wd_316 : (Cond.fieldLink "EchoFair$Tokens" (25 : Nat) "EchoFair$Tokens" "start" "I") ∈ ALL := all_t2 (i := 76) rfl rfl
theorem wd_317 : (Cond.fieldLink "EchoFair$Tokens" (46 : Nat) "EchoFair$Tokens" "size" "I") ∈ ALL := all_t2 (i := 77) rfl rfl
theorem wd_318 : (Cond.fieldLink "EchoFair$Configuration" (73 : Nat) "EchoFair$Tokens" "value" "I") ∈ ALL := all_t2 (i := 78) rfl rfl
theorem wd_319 : (Cond.fieldLink "EchoFair$Commands" (78 : Nat) "EchoFair$Tokens" "value" "I") ∈ ALL := all_t2 (i := 79) rfl rfl
theorem wd_320 : (Cond.fieldLink "EchoFair$Tokens" (43 : Nat) "EchoFair$Tokens" "value" "I") ∈ ALL := all_t2 (i := 80) rfl rfl
theorem wd_321 : (Cond.fieldLink "EchoFair$Tokens" (22 : Nat) "EchoFair$Tokens" "errorCode" "I") ∈ ALL := all_t2 (i := 81) rfl rfl
theorem wd_322 : (Cond.fieldLink "EchoFair" (392 : Nat) "EchoFair$Tokens" "errorCode" "I") ∈ ALL := all_t2 (i := 82) rfl rfl
theorem wd_323 : (Cond.fieldLink "EchoFair$Tokens" (9 : Nat) "EchoFair$Tokens" "errorPosition" "I") ∈ ALL := all_t2 (i := 83) rfl rfl
theorem wd_324 : (Cond.fieldLink "EchoFair" (395 : Nat) "EchoFair$Tokens" "errorPosition" "I") ∈ ALL := all_t2 (i := 84) rfl rfl
theorem wd_325 : (Cond.laysFinal "EchoFair$Tokens" "EchoFair$Tokens" "text" "LEchoFair$Buffer;") ∈ ALL := all_t2 (i := 85) rfl rfl
theorem wd_327 : (Cond.lays "EchoFair$Tokens" "EchoFair$Tokens" "place" "I") ∈ ALL := all_t2 (i := 87) rfl rfl
theorem wd_329 : (Cond.lays "EchoFair$Tokens" "EchoFair$Tokens" "kind" "I") ∈ ALL := all_t2 (i := 89) rfl rfl
theorem wd_331 : (Cond.lays "EchoFair$Tokens" "EchoFair$Tokens" "start" "I") ∈ ALL := all_t2 (i := 91) rfl rfl
theorem wd_333 : (Cond.lays "EchoFair$Tokens" "EchoFair$Tokens" "size" "I") ∈ ALL := all_t2 (i := 93) rfl rfl
theorem wd_335 : (Cond.lays "EchoFair$Tokens" "EchoFair$Tokens" "value" "I") ∈ ALL := all_t2 (i := 95) rfl rfl
theorem wd_337 : (Cond.lays "EchoFair$Tokens" "EchoFair$Tokens" "errorCode" "I") ∈ ALL := all_t2 (i := 97) rfl rfl
theorem wd_339 : (Cond.lays "EchoFair$Tokens" "EchoFair$Tokens" "errorPosition" "I") ∈ ALL := all_t2 (i := 99) rfl rfl
theorem wd_342 : (Cond.classLink "EchoFair" (67 : Nat) "EchoFair$Configuration") ∈ ALL := all_t2 (i := 102) rfl rfl
theorem wd_343 : (Cond.instantiable "EchoFair$Configuration" (3 : Nat)) ∈ ALL := all_t2 (i := 103) rfl rfl
theorem wd_344 : (Cond.methodLink "EchoFair" (69 : Nat) ({ cls := "EchoFair$Configuration", name := "<init>", desc := "(LEchoFair$Tokens;LEchoFair$World;LEchoFair$Season;)V" } : MethodName)) ∈ ALL := all_t2 (i := 104) rfl rfl
theorem wd_345 : (Cond.instanceMethod ({ cls := "EchoFair$Configuration", name := "<init>", desc := "(LEchoFair$Tokens;LEchoFair$World;LEchoFair$Season;)V" } : MethodName)) ∈ ALL := all_t2 (i := 105) rfl rfl
theorem wd_346 : (Cond.code ({ cls := "EchoFair$Configuration", name := "<init>", desc := "(LEchoFair$Tokens;LEchoFair$World;LEchoFair$Season;)V" } : MethodName) prog_4_method_1_code (4 : Nat) (Option.none : Option ClassFile.FieldType)) ∈ ALL := all_t2 (i := 106) rfl rfl
theorem wd_347 : (Cond.methodLink "EchoFair$Configuration" (3 : Nat) ({ cls := "java/lang/Object", name := "<init>", desc := "()V" } : MethodName)) ∈ ALL := all_t2 (i := 107) rfl rfl
theorem wd_348 : (Cond.fieldLink "EchoFair$Configuration" (9 : Nat) "EchoFair$Configuration" "tokens" "LEchoFair$Tokens;") ∈ ALL := all_t2 (i := 108) rfl rfl
theorem wd_349 : (Cond.fieldLink "EchoFair$Configuration" (15 : Nat) "EchoFair$Configuration" "world" "LEchoFair$World;") ∈ ALL := all_t2 (i := 109) rfl rfl
theorem wd_350 : (Cond.fieldLink "EchoFair$Configuration" (19 : Nat) "EchoFair$Configuration" "season" "LEchoFair$Season;") ∈ ALL := all_t2 (i := 110) rfl rfl
theorem wd_351 : (Cond.laysFinal "EchoFair$Configuration" "EchoFair$Configuration" "tokens" "LEchoFair$Tokens;") ∈ ALL := all_t2 (i := 111) rfl rfl
theorem wd_353 : (Cond.laysFinal "EchoFair$Configuration" "EchoFair$Configuration" "world" "LEchoFair$World;") ∈ ALL := all_t2 (i := 113) rfl rfl
theorem wd_355 : (Cond.laysFinal "EchoFair$Configuration" "EchoFair$Configuration" "season" "LEchoFair$Season;") ∈ ALL := all_t2 (i := 115) rfl rfl
theorem wd_358 : (Cond.classLink "EchoFair" (76 : Nat) "EchoFair$Commands") ∈ ALL := all_t2 (i := 118) rfl rfl
theorem wd_359 : (Cond.instantiable "EchoFair$Commands" (5 : Nat)) ∈ ALL := all_t2 (i := 119) rfl rfl
theorem wd_360 : (Cond.methodLink "EchoFair" (78 : Nat) ({ cls := "EchoFair$Commands", name := "<init>", desc := "(LEchoFair$Tokens;)V" } : MethodName)) ∈ ALL := all_t2 (i := 120) rfl rfl
theorem wd_361 : (Cond.instanceMethod ({ cls := "EchoFair$Commands", name := "<init>", desc := "(LEchoFair$Tokens;)V" } : MethodName)) ∈ ALL := all_t2 (i := 121) rfl rfl
theorem wd_362 : (Cond.code ({ cls := "EchoFair$Commands", name := "<init>", desc := "(LEchoFair$Tokens;)V" } : MethodName) prog_3_method_1_code (2 : Nat) (Option.none : Option ClassFile.FieldType)) ∈ ALL := all_t2 (i := 122) rfl rfl
theorem wd_363 : (Cond.methodLink "EchoFair$Commands" (3 : Nat) ({ cls := "java/lang/Object", name := "<init>", desc := "()V" } : MethodName)) ∈ ALL := all_t2 (i := 123) rfl rfl
theorem wd_364 : (Cond.fieldLink "EchoFair$Commands" (21 : Nat) "EchoFair$Commands" "tokens" "LEchoFair$Tokens;") ∈ ALL := all_t2 (i := 124) rfl rfl
theorem wd_365 : (Cond.fieldLink "EchoFair$Commands" (9 : Nat) "EchoFair$Commands" "verb" "[I") ∈ ALL := all_t2 (i := 125) rfl rfl
theorem wd_366 : (Cond.fieldLink "EchoFair" (416 : Nat) "EchoFair$Commands" "verb" "[I") ∈ ALL := all_t2 (i := 126) rfl rfl
theorem wd_367 : (Cond.fieldLink "EchoFair$Commands" (15 : Nat) "EchoFair$Commands" "first" "[I") ∈ ALL := all_t2 (i := 127) rfl rfl
theorem wd_368 : (Cond.fieldLink "EchoFair" (410 : Nat) "EchoFair$Commands" "first" "[I") ∈ ALL := all_t2 (i := 128) rfl rfl
theorem wd_369 : (Cond.fieldLink "EchoFair$Commands" (18 : Nat) "EchoFair$Commands" "second" "[I") ∈ ALL := all_t2 (i := 129) rfl rfl
theorem wd_370 : (Cond.fieldLink "EchoFair" (413 : Nat) "EchoFair$Commands" "second" "[I") ∈ ALL := all_t2 (i := 130) rfl rfl
theorem wd_371 : (Cond.fieldLink "EchoFair$Commands" (30 : Nat) "EchoFair$Commands" "count" "I") ∈ ALL := all_t2 (i := 131) rfl rfl
theorem wd_372 : (Cond.fieldLink "EchoFair" (145 : Nat) "EchoFair$Commands" "count" "I") ∈ ALL := all_t2 (i := 132) rfl rfl
theorem wd_373 : (Cond.laysFinal "EchoFair$Commands" "EchoFair$Commands" "tokens" "LEchoFair$Tokens;") ∈ ALL := all_t2 (i := 133) rfl rfl
theorem wd_375 : (Cond.laysFinal "EchoFair$Commands" "EchoFair$Commands" "verb" "[I") ∈ ALL := all_t2 (i := 135) rfl rfl
theorem wd_377 : (Cond.laysFinal "EchoFair$Commands" "EchoFair$Commands" "first" "[I") ∈ ALL := all_t2 (i := 137) rfl rfl
theorem wd_379 : (Cond.laysFinal "EchoFair$Commands" "EchoFair$Commands" "second" "[I") ∈ ALL := all_t2 (i := 139) rfl rfl
theorem wd_381 : (Cond.lays "EchoFair$Commands" "EchoFair$Commands" "count" "I") ∈ ALL := all_t2 (i := 141) rfl rfl
theorem wd_385 : (Cond.methodLink "EchoFair" (91 : Nat) ({ cls := "java/lang/String", name := "length", desc := "()I" } : MethodName)) ∈ ALL := all_t2 (i := 145) rfl rfl
theorem wd_386 : (Cond.instanceMethod ({ cls := "java/lang/String", name := "length", desc := "()I" } : MethodName)) ∈ ALL := all_t2 (i := 146) rfl rfl
theorem wd_387 : (Cond.selects "java/lang/String" ({ cls := "java/lang/String", name := "length", desc := "()I" } : MethodName) ({ cls := "java/lang/String", name := "length", desc := "()I" } : MethodName)) ∈ ALL := all_t2 (i := 147) rfl rfl
theorem wd_388 : (Cond.code ({ cls := "java/lang/String", name := "length", desc := "()I" } : MethodName) prog_20_method_54_code (1 : Nat) (Option.some ClassFile.FieldType.int)) ∈ ALL := all_t2 (i := 148) rfl rfl
theorem wd_389 : (Cond.methodLink "java/lang/String" (335 : Nat) ({ cls := "java/lang/String", name := "coder", desc := "()B" } : MethodName)) ∈ ALL := all_t2 (i := 149) rfl rfl
theorem wd_390 : (Cond.instanceMethod ({ cls := "java/lang/String", name := "coder", desc := "()B" } : MethodName)) ∈ ALL := all_t2 (i := 150) rfl rfl
theorem wd_391 : (Cond.selects "java/lang/String" ({ cls := "java/lang/String", name := "coder", desc := "()B" } : MethodName) ({ cls := "java/lang/String", name := "coder", desc := "()B" } : MethodName)) ∈ ALL := all_t2 (i := 151) rfl rfl
theorem wd_392 : (Cond.code ({ cls := "java/lang/String", name := "coder", desc := "()B" } : MethodName) prog_20_method_152_code (1 : Nat) (Option.some ClassFile.FieldType.byte)) ∈ ALL := all_t2 (i := 152) rfl rfl
theorem wd_393 : (Cond.fieldLink "java/lang/String" (38 : Nat) "java/lang/String" "COMPACT_STRINGS" "Z") ∈ ALL := all_t2 (i := 153) rfl rfl
theorem wd_395 : (Cond.methodLink "EchoFair" (97 : Nat) ({ cls := "java/lang/String", name := "charAt", desc := "(I)C" } : MethodName)) ∈ ALL := all_t2 (i := 155) rfl rfl
theorem wd_396 : (Cond.instanceMethod ({ cls := "java/lang/String", name := "charAt", desc := "(I)C" } : MethodName)) ∈ ALL := all_t2 (i := 156) rfl rfl
theorem wd_397 : (Cond.selects "java/lang/String" ({ cls := "java/lang/String", name := "charAt", desc := "(I)C" } : MethodName) ({ cls := "java/lang/String", name := "charAt", desc := "(I)C" } : MethodName)) ∈ ALL := all_t2 (i := 157) rfl rfl
theorem wd_398 : (Cond.code ({ cls := "java/lang/String", name := "charAt", desc := "(I)C" } : MethodName) prog_20_method_56_code (2 : Nat) (Option.some ClassFile.FieldType.char)) ∈ ALL := all_t2 (i := 158) rfl rfl
theorem wd_399 : (Cond.methodLink "java/lang/String" (492 : Nat) ({ cls := "java/lang/String", name := "isLatin1", desc := "()Z" } : MethodName)) ∈ ALL := all_t2 (i := 159) rfl rfl
theorem wd_400 : (Cond.instanceMethod ({ cls := "java/lang/String", name := "isLatin1", desc := "()Z" } : MethodName)) ∈ ALL := all_t2 (i := 160) rfl rfl
theorem wd_401 : (Cond.selects "java/lang/String" ({ cls := "java/lang/String", name := "isLatin1", desc := "()Z" } : MethodName) ({ cls := "java/lang/String", name := "isLatin1", desc := "()Z" } : MethodName)) ∈ ALL := all_t2 (i := 161) rfl rfl
theorem wd_402 : (Cond.code ({ cls := "java/lang/String", name := "isLatin1", desc := "()Z" } : MethodName) prog_20_method_154_code (1 : Nat) (Option.some ClassFile.FieldType.boolean)) ∈ ALL := all_t2 (i := 162) rfl rfl
theorem wd_403 : (Cond.methodLink "java/lang/String" (495 : Nat) ({ cls := "java/lang/StringLatin1", name := "charAt", desc := "([BI)C" } : MethodName)) ∈ ALL := all_t2 (i := 163) rfl rfl
theorem wd_404 : (Cond.static ({ cls := "java/lang/StringLatin1", name := "charAt", desc := "([BI)C" } : MethodName)) ∈ ALL := all_t2 (i := 164) rfl rfl
theorem wd_405 : (Cond.code ({ cls := "java/lang/StringLatin1", name := "charAt", desc := "([BI)C" } : MethodName) prog_21_method_2_code (2 : Nat) (Option.some ClassFile.FieldType.char)) ∈ ALL := all_t2 (i := 165) rfl rfl
theorem wd_406 : (Cond.methodLink "java/lang/StringLatin1" (9 : Nat) ({ cls := "java/lang/String", name := "checkIndex", desc := "(II)V" } : MethodName)) ∈ ALL := all_t2 (i := 166) rfl rfl
theorem wd_407 : (Cond.static ({ cls := "java/lang/String", name := "checkIndex", desc := "(II)V" } : MethodName)) ∈ ALL := all_t2 (i := 167) rfl rfl
theorem wd_408 : (Cond.code ({ cls := "java/lang/String", name := "checkIndex", desc := "(II)V" } : MethodName) prog_20_method_155_code (2 : Nat) (Option.none : Option ClassFile.FieldType)) ∈ ALL := all_t2 (i := 168) rfl rfl
theorem wd_409 : (Cond.fieldLink "java/lang/String" (1053 : Nat) "jdk/internal/util/Preconditions" "SIOOBE_FORMATTER" "Ljava/util/function/BiFunction;") ∈ ALL := all_t2 (i := 169) rfl rfl
theorem wd_411 : (Cond.methodLink "java/lang/String" (1059 : Nat) ({ cls := "jdk/internal/util/Preconditions", name := "checkIndex", desc := "(IILjava/util/function/BiFunction;)I" } : MethodName)) ∈ ALL := all_t2 (i := 171) rfl rfl
theorem wd_412 : (Cond.static ({ cls := "jdk/internal/util/Preconditions", name := "checkIndex", desc := "(IILjava/util/function/BiFunction;)I" } : MethodName)) ∈ ALL := all_t2 (i := 172) rfl rfl
theorem wd_413 : (Cond.code ({ cls := "jdk/internal/util/Preconditions", name := "checkIndex", desc := "(IILjava/util/function/BiFunction;)I" } : MethodName) prog_25_method_11_code (3 : Nat) (Option.some ClassFile.FieldType.int)) ∈ ALL := all_t2 (i := 173) rfl rfl
theorem wd_433 : (Cond.methodLink "EchoFair" (101 : Nat) ({ cls := "EchoFair$Buffer", name := "add", desc := "(I)V" } : MethodName)) ∈ ALL := all_t2 (i := 193) rfl rfl
theorem wd_434 : (Cond.instanceMethod ({ cls := "EchoFair$Buffer", name := "add", desc := "(I)V" } : MethodName)) ∈ ALL := all_t2 (i := 194) rfl rfl
theorem wd_435 : (Cond.selects "EchoFair$Buffer" ({ cls := "EchoFair$Buffer", name := "add", desc := "(I)V" } : MethodName) ({ cls := "EchoFair$Buffer", name := "add", desc := "(I)V" } : MethodName)) ∈ ALL := all_t2 (i := 195) rfl rfl
theorem wd_436 : (Cond.code ({ cls := "EchoFair$Buffer", name := "add", desc := "(I)V" } : MethodName) prog_2_method_2_code (2 : Nat) (Option.none : Option ClassFile.FieldType)) ∈ ALL := all_t2 (i := 196) rfl rfl
theorem wd_437 : (Cond.methodLink "EchoFair" (104 : Nat) ({ cls := "EchoFair$Configuration", name := "parse", desc := "()Z" } : MethodName)) ∈ ALL := all_t2 (i := 197) rfl rfl
theorem wd_438 : (Cond.instanceMethod ({ cls := "EchoFair$Configuration", name := "parse", desc := "()Z" } : MethodName)) ∈ ALL := all_t2 (i := 198) rfl rfl
theorem wd_439 : (Cond.selects "EchoFair$Configuration" ({ cls := "EchoFair$Configuration", name := "parse", desc := "()Z" } : MethodName) ({ cls := "EchoFair$Configuration", name := "parse", desc := "()Z" } : MethodName)) ∈ ALL := all_t2 (i := 199) rfl rfl
theorem wd_440 : (Cond.code ({ cls := "EchoFair$Configuration", name := "parse", desc := "()Z" } : MethodName) prog_4_method_2_code (2 : Nat) (Option.some ClassFile.FieldType.boolean)) ∈ ALL := all_t2 (i := 200) rfl rfl
theorem wd_441 : (Cond.methodLink "EchoFair$Configuration" (23 : Nat) ({ cls := "EchoFair$Tokens", name := "begin", desc := "()V" } : MethodName)) ∈ ALL := all_t2 (i := 201) rfl rfl
theorem wd_442 : (Cond.instanceMethod ({ cls := "EchoFair$Tokens", name := "begin", desc := "()V" } : MethodName)) ∈ ALL := all_t2 (i := 202) rfl rfl
theorem wd_443 : (Cond.selects "EchoFair$Tokens" ({ cls := "EchoFair$Tokens", name := "begin", desc := "()V" } : MethodName) ({ cls := "EchoFair$Tokens", name := "begin", desc := "()V" } : MethodName)) ∈ ALL := all_t2 (i := 203) rfl rfl
theorem wd_444 : (Cond.code ({ cls := "EchoFair$Tokens", name := "begin", desc := "()V" } : MethodName) prog_9_method_2_code (1 : Nat) (Option.none : Option ClassFile.FieldType)) ∈ ALL := all_t2 (i := 204) rfl rfl
theorem wd_445 : (Cond.methodLink "EchoFair$Configuration" (28 : Nat) ({ cls := "EchoFair$World", name := "clear", desc := "()V" } : MethodName)) ∈ ALL := all_t2 (i := 205) rfl rfl
theorem wd_446 : (Cond.instanceMethod ({ cls := "EchoFair$World", name := "clear", desc := "()V" } : MethodName)) ∈ ALL := all_t2 (i := 206) rfl rfl
theorem wd_447 : (Cond.selects "EchoFair$World" ({ cls := "EchoFair$World", name := "clear", desc := "()V" } : MethodName) ({ cls := "EchoFair$World", name := "clear", desc := "()V" } : MethodName)) ∈ ALL := all_t2 (i := 207) rfl rfl
theorem wd_448 : (Cond.code ({ cls := "EchoFair$World", name := "clear", desc := "()V" } : MethodName) prog_11_method_2_code (1 : Nat) (Option.none : Option ClassFile.FieldType)) ∈ ALL := all_t2 (i := 208) rfl rfl
theorem wd_449 : (Cond.methodLink "EchoFair$Configuration" (33 : Nat) ({ cls := "EchoFair$Configuration", name := "takeSeason", desc := "()Z" } : MethodName)) ∈ ALL := all_t2 (i := 209) rfl rfl
theorem wd_451 : (Cond.instanceMethod ({ cls := "EchoFair$Configuration", name := "takeSeason", desc := "()Z" } : MethodName)) ∈ ALL := all_t2 (i := 211) rfl rfl
theorem wd_452 : (Cond.code ({ cls := "EchoFair$Configuration", name := "takeSeason", desc := "()Z" } : MethodName) prog_4_method_4_code (1 : Nat) (Option.some ClassFile.FieldType.boolean)) ∈ ALL := all_t2 (i := 212) rfl rfl
theorem wd_454 : (Cond.methodLink "EchoFair$Configuration" (65 : Nat) ({ cls := "EchoFair$Tokens", name := "takeWord", desc := "(Ljava/lang/String;)Z" } : MethodName)) ∈ ALL := all_t2 (i := 214) rfl rfl
theorem wd_455 : (Cond.instanceMethod ({ cls := "EchoFair$Tokens", name := "takeWord", desc := "(Ljava/lang/String;)Z" } : MethodName)) ∈ ALL := all_t2 (i := 215) rfl rfl
theorem wd_456 : (Cond.selects "EchoFair$Tokens" ({ cls := "EchoFair$Tokens", name := "takeWord", desc := "(Ljava/lang/String;)Z" } : MethodName) ({ cls := "EchoFair$Tokens", name := "takeWord", desc := "(Ljava/lang/String;)Z" } : MethodName)) ∈ ALL := all_t2 (i := 216) rfl rfl
theorem wd_457 : (Cond.code ({ cls := "EchoFair$Tokens", name := "takeWord", desc := "(Ljava/lang/String;)Z" } : MethodName) prog_9_method_8_code (2 : Nat) (Option.some ClassFile.FieldType.boolean)) ∈ ALL := all_t2 (i := 217) rfl rfl
theorem wd_458 : (Cond.methodLink "EchoFair$Tokens" (62 : Nat) ({ cls := "EchoFair$Tokens", name := "next", desc := "()V" } : MethodName)) ∈ ALL := all_t2 (i := 218) rfl rfl
theorem wd_459 : (Cond.instanceMethod ({ cls := "EchoFair$Tokens", name := "next", desc := "()V" } : MethodName)) ∈ ALL := all_t2 (i := 219) rfl rfl
theorem wd_460 : (Cond.selects "EchoFair$Tokens" ({ cls := "EchoFair$Tokens", name := "next", desc := "()V" } : MethodName) ({ cls := "EchoFair$Tokens", name := "next", desc := "()V" } : MethodName)) ∈ ALL := all_t2 (i := 220) rfl rfl
theorem wd_461 : (Cond.code ({ cls := "EchoFair$Tokens", name := "next", desc := "()V" } : MethodName) prog_9_method_5_code (2 : Nat) (Option.none : Option ClassFile.FieldType)) ∈ ALL := all_t2 (i := 221) rfl rfl
theorem wd_462 : (Cond.methodLink "EchoFair$Tokens" (33 : Nat) ({ cls := "EchoFair$Buffer", name := "byteAt", desc := "(I)I" } : MethodName)) ∈ ALL := all_t2 (i := 222) rfl rfl
theorem wd_463 : (Cond.instanceMethod ({ cls := "EchoFair$Buffer", name := "byteAt", desc := "(I)I" } : MethodName)) ∈ ALL := all_t2 (i := 223) rfl rfl
theorem wd_464 : (Cond.selects "EchoFair$Buffer" ({ cls := "EchoFair$Buffer", name := "byteAt", desc := "(I)I" } : MethodName) ({ cls := "EchoFair$Buffer", name := "byteAt", desc := "(I)I" } : MethodName)) ∈ ALL := all_t2 (i := 224) rfl rfl
theorem wd_465 : (Cond.code ({ cls := "EchoFair$Buffer", name := "byteAt", desc := "(I)I" } : MethodName) prog_2_method_5_code (2 : Nat) (Option.some ClassFile.FieldType.int)) ∈ ALL := all_t2 (i := 225) rfl rfl
theorem wd_466 : (Cond.methodLink "EchoFair$Tokens" (37 : Nat) ({ cls := "EchoFair$Tokens", name := "kindOf", desc := "(I)I" } : MethodName)) ∈ ALL := all_t2 (i := 226) rfl rfl
theorem wd_467 : (Cond.static ({ cls := "EchoFair$Tokens", name := "kindOf", desc := "(I)I" } : MethodName)) ∈ ALL := all_t2 (i := 227) rfl rfl
theorem wd_468 : (Cond.code ({ cls := "EchoFair$Tokens", name := "kindOf", desc := "(I)I" } : MethodName) prog_9_method_4_code (1 : Nat) (Option.some ClassFile.FieldType.int)) ∈ ALL := all_t2 (i := 228) rfl rfl
theorem wd_469 : (Cond.methodLink "EchoFair$Tokens" (65 : Nat) ({ cls := "EchoFair$Tokens", name := "wordIs", desc := "(Ljava/lang/String;)Z" } : MethodName)) ∈ ALL := all_t2 (i := 229) rfl rfl
theorem wd_470 : (Cond.instanceMethod ({ cls := "EchoFair$Tokens", name := "wordIs", desc := "(Ljava/lang/String;)Z" } : MethodName)) ∈ ALL := all_t2 (i := 230) rfl rfl
theorem wd_471 : (Cond.selects "EchoFair$Tokens" ({ cls := "EchoFair$Tokens", name := "wordIs", desc := "(Ljava/lang/String;)Z" } : MethodName) ({ cls := "EchoFair$Tokens", name := "wordIs", desc := "(Ljava/lang/String;)Z" } : MethodName)) ∈ ALL := all_t2 (i := 231) rfl rfl
theorem wd_472 : (Cond.code ({ cls := "EchoFair$Tokens", name := "wordIs", desc := "(Ljava/lang/String;)Z" } : MethodName) prog_9_method_6_code (3 : Nat) (Option.some ClassFile.FieldType.boolean)) ∈ ALL := all_t2 (i := 232) rfl rfl
theorem wd_473 : (Cond.methodLink "EchoFair$Tokens" (49 : Nat) ({ cls := "java/lang/String", name := "length", desc := "()I" } : MethodName)) ∈ ALL := all_t2 (i := 233) rfl rfl
theorem wd_474 : (Cond.methodLink "EchoFair$Tokens" (54 : Nat) ({ cls := "java/lang/String", name := "charAt", desc := "(I)C" } : MethodName)) ∈ ALL := all_t2 (i := 234) rfl rfl
theorem wd_475 : (Cond.methodLink "EchoFair$Tokens" (69 : Nat) ({ cls := "EchoFair$Tokens", name := "fail", desc := "(I)Z" } : MethodName)) ∈ ALL := all_t2 (i := 235) rfl rfl
theorem wd_476 : (Cond.instanceMethod ({ cls := "EchoFair$Tokens", name := "fail", desc := "(I)Z" } : MethodName)) ∈ ALL := all_t2 (i := 236) rfl rfl
theorem wd_477 : (Cond.selects "EchoFair$Tokens" ({ cls := "EchoFair$Tokens", name := "fail", desc := "(I)Z" } : MethodName) ({ cls := "EchoFair$Tokens", name := "fail", desc := "(I)Z" } : MethodName)) ∈ ALL := all_t2 (i := 237) rfl rfl
theorem wd_478 : (Cond.code ({ cls := "EchoFair$Tokens", name := "fail", desc := "(I)Z" } : MethodName) prog_9_method_3_code (2 : Nat) (Option.some ClassFile.FieldType.boolean)) ∈ ALL := all_t2 (i := 238) rfl rfl
theorem wd_479 : (Cond.methodLink "EchoFair$Configuration" (69 : Nat) ({ cls := "EchoFair$Tokens", name := "takeNumber", desc := "(II)Z" } : MethodName)) ∈ ALL := all_t2 (i := 239) rfl rfl
theorem wd_480 : (Cond.instanceMethod ({ cls := "EchoFair$Tokens", name := "takeNumber", desc := "(II)Z" } : MethodName)) ∈ ALL := all_t3 (i := 0) rfl rfl
theorem wd_481 : (Cond.selects "EchoFair$Tokens" ({ cls := "EchoFair$Tokens", name := "takeNumber", desc := "(II)Z" } : MethodName) ({ cls := "EchoFair$Tokens", name := "takeNumber", desc := "(II)Z" } : MethodName)) ∈ ALL := all_t3 (i := 1) rfl rfl
theorem wd_482 : (Cond.code ({ cls := "EchoFair$Tokens", name := "takeNumber", desc := "(II)Z" } : MethodName) prog_9_method_12_code (3 : Nat) (Option.some ClassFile.FieldType.boolean)) ∈ ALL := all_t3 (i := 2) rfl rfl
theorem wd_483 : (Cond.methodLink "EchoFair$Tokens" (77 : Nat) ({ cls := "EchoFair$Tokens", name := "checkNumber", desc := "(II)Z" } : MethodName)) ∈ ALL := all_t3 (i := 3) rfl rfl
theorem wd_484 : (Cond.instanceMethod ({ cls := "EchoFair$Tokens", name := "checkNumber", desc := "(II)Z" } : MethodName)) ∈ ALL := all_t3 (i := 4) rfl rfl
theorem wd_485 : (Cond.selects "EchoFair$Tokens" ({ cls := "EchoFair$Tokens", name := "checkNumber", desc := "(II)Z" } : MethodName) ({ cls := "EchoFair$Tokens", name := "checkNumber", desc := "(II)Z" } : MethodName)) ∈ ALL := all_t3 (i := 5) rfl rfl
theorem wd_486 : (Cond.code ({ cls := "EchoFair$Tokens", name := "checkNumber", desc := "(II)Z" } : MethodName) prog_9_method_13_code (3 : Nat) (Option.some ClassFile.FieldType.boolean)) ∈ ALL := all_t3 (i := 6) rfl rfl
theorem wd_487 : (Cond.methodLink "EchoFair$Configuration" (81 : Nat) ({ cls := "EchoFair$Tokens", name := "takeSemicolon", desc := "()Z" } : MethodName)) ∈ ALL := all_t3 (i := 7) rfl rfl
theorem wd_488 : (Cond.instanceMethod ({ cls := "EchoFair$Tokens", name := "takeSemicolon", desc := "()Z" } : MethodName)) ∈ ALL := all_t3 (i := 8) rfl rfl
theorem wd_489 : (Cond.selects "EchoFair$Tokens" ({ cls := "EchoFair$Tokens", name := "takeSemicolon", desc := "()Z" } : MethodName) ({ cls := "EchoFair$Tokens", name := "takeSemicolon", desc := "()Z" } : MethodName)) ∈ ALL := all_t3 (i := 9) rfl rfl
theorem wd_490 : (Cond.code ({ cls := "EchoFair$Tokens", name := "takeSemicolon", desc := "()Z" } : MethodName) prog_9_method_9_code (1 : Nat) (Option.some ClassFile.FieldType.boolean)) ∈ ALL := all_t3 (i := 10) rfl rfl
theorem wd_491 : (Cond.methodLink "EchoFair$Configuration" (37 : Nat) ({ cls := "EchoFair$Configuration", name := "takeFog", desc := "()Z" } : MethodName)) ∈ ALL := all_t3 (i := 11) rfl rfl
theorem wd_493 : (Cond.instanceMethod ({ cls := "EchoFair$Configuration", name := "takeFog", desc := "()Z" } : MethodName)) ∈ ALL := all_t3 (i := 13) rfl rfl
theorem wd_494 : (Cond.code ({ cls := "EchoFair$Configuration", name := "takeFog", desc := "()Z" } : MethodName) prog_4_method_5_code (2 : Nat) (Option.some ClassFile.FieldType.boolean)) ∈ ALL := all_t3 (i := 14) rfl rfl
theorem wd_496 : (Cond.methodLink "EchoFair$Configuration" (40 : Nat) ({ cls := "EchoFair$Tokens", name := "next", desc := "()V" } : MethodName)) ∈ ALL := all_t3 (i := 16) rfl rfl
theorem wd_497 : (Cond.methodLink "EchoFair$Configuration" (89 : Nat) ({ cls := "EchoFair$Tokens", name := "checkNumber", desc := "(II)Z" } : MethodName)) ∈ ALL := all_t3 (i := 17) rfl rfl
theorem wd_498 : (Cond.methodLink "EchoFair$Configuration" (92 : Nat) ({ cls := "EchoFair$Season", name := "addLevel", desc := "(I)V" } : MethodName)) ∈ ALL := all_t3 (i := 18) rfl rfl
theorem wd_499 : (Cond.instanceMethod ({ cls := "EchoFair$Season", name := "addLevel", desc := "(I)V" } : MethodName)) ∈ ALL := all_t3 (i := 19) rfl rfl
theorem wd_500 : (Cond.selects "EchoFair$Season" ({ cls := "EchoFair$Season", name := "addLevel", desc := "(I)V" } : MethodName) ({ cls := "EchoFair$Season", name := "addLevel", desc := "(I)V" } : MethodName)) ∈ ALL := all_t3 (i := 20) rfl rfl
theorem wd_501 : (Cond.code ({ cls := "EchoFair$Season", name := "addLevel", desc := "(I)V" } : MethodName) prog_8_method_5_code (2 : Nat) (Option.none : Option ClassFile.FieldType)) ∈ ALL := all_t3 (i := 21) rfl rfl
theorem wd_502 : (Cond.methodLink "EchoFair$Configuration" (53 : Nat) ({ cls := "EchoFair$Tokens", name := "fail", desc := "(I)Z" } : MethodName)) ∈ ALL := all_t3 (i := 22) rfl rfl
theorem wd_503 : (Cond.methodLink "EchoFair$Configuration" (47 : Nat) ({ cls := "EchoFair$Configuration", name := "isComplete", desc := "()Z" } : MethodName)) ∈ ALL := all_t3 (i := 23) rfl rfl
theorem wd_505 : (Cond.instanceMethod ({ cls := "EchoFair$Configuration", name := "isComplete", desc := "()Z" } : MethodName)) ∈ ALL := all_t3 (i := 25) rfl rfl
theorem wd_506 : (Cond.code ({ cls := "EchoFair$Configuration", name := "isComplete", desc := "()Z" } : MethodName) prog_4_method_3_code (1 : Nat) (Option.some ClassFile.FieldType.boolean)) ∈ ALL := all_t3 (i := 26) rfl rfl
theorem wd_507 : (Cond.methodLink "EchoFair$Configuration" (50 : Nat) ({ cls := "EchoFair$Configuration", name := "takeStatement", desc := "()Z" } : MethodName)) ∈ ALL := all_t3 (i := 27) rfl rfl
theorem wd_509 : (Cond.instanceMethod ({ cls := "EchoFair$Configuration", name := "takeStatement", desc := "()Z" } : MethodName)) ∈ ALL := all_t3 (i := 29) rfl rfl
theorem wd_510 : (Cond.code ({ cls := "EchoFair$Configuration", name := "takeStatement", desc := "()Z" } : MethodName) prog_4_method_6_code (1 : Nat) (Option.some ClassFile.FieldType.boolean)) ∈ ALL := all_t3 (i := 30) rfl rfl
theorem wd_512 : (Cond.methodLink "EchoFair$Configuration" (98 : Nat) ({ cls := "EchoFair$Tokens", name := "wordIs", desc := "(Ljava/lang/String;)Z" } : MethodName)) ∈ ALL := all_t3 (i := 32) rfl rfl
theorem wd_513 : (Cond.methodLink "EchoFair$Configuration" (101 : Nat) ({ cls := "EchoFair$Configuration", name := "takeNewEcho", desc := "()Z" } : MethodName)) ∈ ALL := all_t3 (i := 33) rfl rfl
theorem wd_515 : (Cond.instanceMethod ({ cls := "EchoFair$Configuration", name := "takeNewEcho", desc := "()Z" } : MethodName)) ∈ ALL := all_t3 (i := 35) rfl rfl
theorem wd_516 : (Cond.code ({ cls := "EchoFair$Configuration", name := "takeNewEcho", desc := "()Z" } : MethodName) prog_4_method_7_code (2 : Nat) (Option.some ClassFile.FieldType.boolean)) ∈ ALL := all_t3 (i := 36) rfl rfl
theorem wd_517 : (Cond.methodLink "EchoFair$Configuration" (114 : Nat) ({ cls := "EchoFair$Tokens", name := "takeName", desc := "()Z" } : MethodName)) ∈ ALL := all_t3 (i := 37) rfl rfl
theorem wd_518 : (Cond.instanceMethod ({ cls := "EchoFair$Tokens", name := "takeName", desc := "()Z" } : MethodName)) ∈ ALL := all_t3 (i := 38) rfl rfl
theorem wd_519 : (Cond.selects "EchoFair$Tokens" ({ cls := "EchoFair$Tokens", name := "takeName", desc := "()Z" } : MethodName) ({ cls := "EchoFair$Tokens", name := "takeName", desc := "()Z" } : MethodName)) ∈ ALL := all_t3 (i := 39) rfl rfl
theorem wd_520 : (Cond.code ({ cls := "EchoFair$Tokens", name := "takeName", desc := "()Z" } : MethodName) prog_9_method_11_code (1 : Nat) (Option.some ClassFile.FieldType.boolean)) ∈ ALL := all_t3 (i := 40) rfl rfl
theorem wd_521 : (Cond.methodLink "EchoFair$Tokens" (73 : Nat) ({ cls := "EchoFair$Tokens", name := "isName", desc := "()Z" } : MethodName)) ∈ ALL := all_t3 (i := 41) rfl rfl
theorem wd_523 : (Cond.instanceMethod ({ cls := "EchoFair$Tokens", name := "isName", desc := "()Z" } : MethodName)) ∈ ALL := all_t3 (i := 43) rfl rfl
theorem wd_524 : (Cond.code ({ cls := "EchoFair$Tokens", name := "isName", desc := "()Z" } : MethodName) prog_9_method_10_code (1 : Nat) (Option.some ClassFile.FieldType.boolean)) ∈ ALL := all_t3 (i := 44) rfl rfl
theorem wd_525 : (Cond.methodLink "EchoFair$Configuration" (117 : Nat) ({ cls := "EchoFair$Tokens", name := "name", desc := "()J" } : MethodName)) ∈ ALL := all_t3 (i := 45) rfl rfl
theorem wd_526 : (Cond.instanceMethod ({ cls := "EchoFair$Tokens", name := "name", desc := "()J" } : MethodName)) ∈ ALL := all_t3 (i := 46) rfl rfl
theorem wd_527 : (Cond.selects "EchoFair$Tokens" ({ cls := "EchoFair$Tokens", name := "name", desc := "()J" } : MethodName) ({ cls := "EchoFair$Tokens", name := "name", desc := "()J" } : MethodName)) ∈ ALL := all_t3 (i := 47) rfl rfl
theorem wd_528 : (Cond.code ({ cls := "EchoFair$Tokens", name := "name", desc := "()J" } : MethodName) prog_9_method_7_code (1 : Nat) (Option.some ClassFile.FieldType.long)) ∈ ALL := all_t3 (i := 48) rfl rfl
theorem wd_529 : (Cond.methodLink "EchoFair$Tokens" (58 : Nat) ({ cls := "EchoFair$Buffer", name := "nameAt", desc := "(II)J" } : MethodName)) ∈ ALL := all_t3 (i := 49) rfl rfl
theorem wd_530 : (Cond.instanceMethod ({ cls := "EchoFair$Buffer", name := "nameAt", desc := "(II)J" } : MethodName)) ∈ ALL := all_t3 (i := 50) rfl rfl
theorem wd_531 : (Cond.selects "EchoFair$Buffer" ({ cls := "EchoFair$Buffer", name := "nameAt", desc := "(II)J" } : MethodName) ({ cls := "EchoFair$Buffer", name := "nameAt", desc := "(II)J" } : MethodName)) ∈ ALL := all_t3 (i := 51) rfl rfl
theorem wd_532 : (Cond.code ({ cls := "EchoFair$Buffer", name := "nameAt", desc := "(II)J" } : MethodName) prog_2_method_6_code (7 : Nat) (Option.some ClassFile.FieldType.long)) ∈ ALL := all_t3 (i := 52) rfl rfl
theorem wd_533 : (Cond.methodLink "EchoFair$Buffer" (29 : Nat) ({ cls := "EchoFair$Buffer", name := "byteAt", desc := "(I)I" } : MethodName)) ∈ ALL := all_t3 (i := 53) rfl rfl
theorem wd_534 : (Cond.methodLink "EchoFair$Configuration" (121 : Nat) ({ cls := "EchoFair$World", name := "echoNamed", desc := "(J)I" } : MethodName)) ∈ ALL := all_t3 (i := 54) rfl rfl
theorem wd_535 : (Cond.instanceMethod ({ cls := "EchoFair$World", name := "echoNamed", desc := "(J)I" } : MethodName)) ∈ ALL := all_t3 (i := 55) rfl rfl
theorem wd_536 : (Cond.selects "EchoFair$World" ({ cls := "EchoFair$World", name := "echoNamed", desc := "(J)I" } : MethodName) ({ cls := "EchoFair$World", name := "echoNamed", desc := "(J)I" } : MethodName)) ∈ ALL := all_t3 (i := 56) rfl rfl
theorem wd_537 : (Cond.code ({ cls := "EchoFair$World", name := "echoNamed", desc := "(J)I" } : MethodName) prog_11_method_4_code (4 : Nat) (Option.some ClassFile.FieldType.int)) ∈ ALL := all_t3 (i := 57) rfl rfl
theorem wd_538 : (Cond.methodLink "EchoFair$Configuration" (129 : Nat) ({ cls := "EchoFair$Echo", name := "start", desc := "(J)V" } : MethodName)) ∈ ALL := all_t3 (i := 58) rfl rfl
theorem wd_539 : (Cond.instanceMethod ({ cls := "EchoFair$Echo", name := "start", desc := "(J)V" } : MethodName)) ∈ ALL := all_t3 (i := 59) rfl rfl
theorem wd_540 : (Cond.selects "EchoFair$Echo" ({ cls := "EchoFair$Echo", name := "start", desc := "(J)V" } : MethodName) ({ cls := "EchoFair$Echo", name := "start", desc := "(J)V" } : MethodName)) ∈ ALL := all_t3 (i := 60) rfl rfl
theorem wd_541 : (Cond.code ({ cls := "EchoFair$Echo", name := "start", desc := "(J)V" } : MethodName) prog_5_method_2_code (3 : Nat) (Option.none : Option ClassFile.FieldType)) ∈ ALL := all_t3 (i := 61) rfl rfl
theorem wd_543 : (Cond.methodLink "EchoFair$Configuration" (106 : Nat) ({ cls := "EchoFair$Configuration", name := "takeNewValley", desc := "()Z" } : MethodName)) ∈ ALL := all_t3 (i := 63) rfl rfl
theorem wd_545 : (Cond.instanceMethod ({ cls := "EchoFair$Configuration", name := "takeNewValley", desc := "()Z" } : MethodName)) ∈ ALL := all_t3 (i := 65) rfl rfl
theorem wd_546 : (Cond.code ({ cls := "EchoFair$Configuration", name := "takeNewValley", desc := "()Z" } : MethodName) prog_4_method_8_code (2 : Nat) (Option.some ClassFile.FieldType.boolean)) ∈ ALL := all_t3 (i := 66) rfl rfl
theorem wd_547 : (Cond.methodLink "EchoFair$Configuration" (147 : Nat) ({ cls := "EchoFair$World", name := "valleyNamed", desc := "(J)I" } : MethodName)) ∈ ALL := all_t3 (i := 67) rfl rfl
theorem wd_548 : (Cond.instanceMethod ({ cls := "EchoFair$World", name := "valleyNamed", desc := "(J)I" } : MethodName)) ∈ ALL := all_t3 (i := 68) rfl rfl
theorem wd_549 : (Cond.selects "EchoFair$World" ({ cls := "EchoFair$World", name := "valleyNamed", desc := "(J)I" } : MethodName) ({ cls := "EchoFair$World", name := "valleyNamed", desc := "(J)I" } : MethodName)) ∈ ALL := all_t3 (i := 69) rfl rfl
theorem wd_550 : (Cond.code ({ cls := "EchoFair$World", name := "valleyNamed", desc := "(J)I" } : MethodName) prog_11_method_5_code (4 : Nat) (Option.some ClassFile.FieldType.int)) ∈ ALL := all_t3 (i := 70) rfl rfl
theorem wd_551 : (Cond.methodLink "EchoFair$Configuration" (154 : Nat) ({ cls := "EchoFair$Valley", name := "start", desc := "(J)V" } : MethodName)) ∈ ALL := all_t3 (i := 71) rfl rfl
theorem wd_552 : (Cond.instanceMethod ({ cls := "EchoFair$Valley", name := "start", desc := "(J)V" } : MethodName)) ∈ ALL := all_t3 (i := 72) rfl rfl
theorem wd_553 : (Cond.selects "EchoFair$Valley" ({ cls := "EchoFair$Valley", name := "start", desc := "(J)V" } : MethodName) ({ cls := "EchoFair$Valley", name := "start", desc := "(J)V" } : MethodName)) ∈ ALL := all_t3 (i := 73) rfl rfl
theorem wd_554 : (Cond.code ({ cls := "EchoFair$Valley", name := "start", desc := "(J)V" } : MethodName) prog_10_method_2_code (4 : Nat) (Option.none : Option ClassFile.FieldType)) ∈ ALL := all_t3 (i := 74) rfl rfl
theorem wd_556 : (Cond.methodLink "EchoFair$Configuration" (111 : Nat) ({ cls := "EchoFair$Configuration", name := "takeTest", desc := "()Z" } : MethodName)) ∈ ALL := all_t3 (i := 76) rfl rfl
theorem wd_558 : (Cond.instanceMethod ({ cls := "EchoFair$Configuration", name := "takeTest", desc := "()Z" } : MethodName)) ∈ ALL := all_t3 (i := 78) rfl rfl
theorem wd_559 : (Cond.code ({ cls := "EchoFair$Configuration", name := "takeTest", desc := "()Z" } : MethodName) prog_4_method_9_code (2 : Nat) (Option.some ClassFile.FieldType.boolean)) ∈ ALL := all_t3 (i := 79) rfl rfl
theorem wd_560 : (Cond.methodLink "EchoFair$Configuration" (172 : Nat) ({ cls := "EchoFair$Tokens", name := "takeValley", desc := "(LEchoFair$World;)Z" } : MethodName)) ∈ ALL := all_t3 (i := 80) rfl rfl
theorem wd_561 : (Cond.instanceMethod ({ cls := "EchoFair$Tokens", name := "takeValley", desc := "(LEchoFair$World;)Z" } : MethodName)) ∈ ALL := all_t3 (i := 81) rfl rfl
theorem wd_562 : (Cond.selects "EchoFair$Tokens" ({ cls := "EchoFair$Tokens", name := "takeValley", desc := "(LEchoFair$World;)Z" } : MethodName) ({ cls := "EchoFair$Tokens", name := "takeValley", desc := "(LEchoFair$World;)Z" } : MethodName)) ∈ ALL := all_t3 (i := 82) rfl rfl
theorem wd_563 : (Cond.code ({ cls := "EchoFair$Tokens", name := "takeValley", desc := "(LEchoFair$World;)Z" } : MethodName) prog_9_method_15_code (2 : Nat) (Option.some ClassFile.FieldType.boolean)) ∈ ALL := all_t3 (i := 83) rfl rfl
theorem wd_564 : (Cond.methodLink "EchoFair$Tokens" (87 : Nat) ({ cls := "EchoFair$World", name := "valleyNamed", desc := "(J)I" } : MethodName)) ∈ ALL := all_t3 (i := 84) rfl rfl
theorem wd_565 : (Cond.methodLink "EchoFair$Configuration" (176 : Nat) ({ cls := "EchoFair$Tokens", name := "takeEcho", desc := "(LEchoFair$World;)Z" } : MethodName)) ∈ ALL := all_t3 (i := 85) rfl rfl
theorem wd_566 : (Cond.instanceMethod ({ cls := "EchoFair$Tokens", name := "takeEcho", desc := "(LEchoFair$World;)Z" } : MethodName)) ∈ ALL := all_t3 (i := 86) rfl rfl
theorem wd_567 : (Cond.selects "EchoFair$Tokens" ({ cls := "EchoFair$Tokens", name := "takeEcho", desc := "(LEchoFair$World;)Z" } : MethodName) ({ cls := "EchoFair$Tokens", name := "takeEcho", desc := "(LEchoFair$World;)Z" } : MethodName)) ∈ ALL := all_t3 (i := 87) rfl rfl
theorem wd_568 : (Cond.code ({ cls := "EchoFair$Tokens", name := "takeEcho", desc := "(LEchoFair$World;)Z" } : MethodName) prog_9_method_14_code (2 : Nat) (Option.some ClassFile.FieldType.boolean)) ∈ ALL := all_t3 (i := 88) rfl rfl
theorem wd_569 : (Cond.methodLink "EchoFair$Tokens" (81 : Nat) ({ cls := "EchoFair$World", name := "echoNamed", desc := "(J)I" } : MethodName)) ∈ ALL := all_t3 (i := 89) rfl rfl
theorem wd_570 : (Cond.methodLink "EchoFair$Configuration" (179 : Nat) ({ cls := "EchoFair$Valley", name := "noteTest", desc := "(I)V" } : MethodName)) ∈ ALL := all_t3 (i := 90) rfl rfl
theorem wd_571 : (Cond.instanceMethod ({ cls := "EchoFair$Valley", name := "noteTest", desc := "(I)V" } : MethodName)) ∈ ALL := all_t3 (i := 91) rfl rfl
theorem wd_572 : (Cond.selects "EchoFair$Valley" ({ cls := "EchoFair$Valley", name := "noteTest", desc := "(I)V" } : MethodName) ({ cls := "EchoFair$Valley", name := "noteTest", desc := "(I)V" } : MethodName)) ∈ ALL := all_t3 (i := 92) rfl rfl
theorem wd_573 : (Cond.code ({ cls := "EchoFair$Valley", name := "noteTest", desc := "(I)V" } : MethodName) prog_10_method_5_code (2 : Nat) (Option.none : Option ClassFile.FieldType)) ∈ ALL := all_t3 (i := 93) rfl rfl
theorem wd_574 : (Cond.methodLink "EchoFair" (108 : Nat) ({ cls := "EchoFair", name := "adoptDraft", desc := "()V" } : MethodName)) ∈ ALL := all_t3 (i := 94) rfl rfl
theorem wd_576 : (Cond.instanceMethod ({ cls := "EchoFair", name := "adoptDraft", desc := "()V" } : MethodName)) ∈ ALL := all_t3 (i := 96) rfl rfl
theorem wd_577 : (Cond.code ({ cls := "EchoFair", name := "adoptDraft", desc := "()V" } : MethodName) prog_1_method_69_code (1 : Nat) (Option.none : Option ClassFile.FieldType)) ∈ ALL := all_t3 (i := 97) rfl rfl
theorem wd_578 : (Cond.methodLink "EchoFair" (269 : Nat) ({ cls := "EchoFair$World", name := "copyFrom", desc := "(LEchoFair$World;)V" } : MethodName)) ∈ ALL := all_t3 (i := 98) rfl rfl
theorem wd_579 : (Cond.instanceMethod ({ cls := "EchoFair$World", name := "copyFrom", desc := "(LEchoFair$World;)V" } : MethodName)) ∈ ALL := all_t3 (i := 99) rfl rfl
theorem wd_580 : (Cond.selects "EchoFair$World" ({ cls := "EchoFair$World", name := "copyFrom", desc := "(LEchoFair$World;)V" } : MethodName) ({ cls := "EchoFair$World", name := "copyFrom", desc := "(LEchoFair$World;)V" } : MethodName)) ∈ ALL := all_t3 (i := 100) rfl rfl
theorem wd_581 : (Cond.code ({ cls := "EchoFair$World", name := "copyFrom", desc := "(LEchoFair$World;)V" } : MethodName) prog_11_method_3_code (3 : Nat) (Option.none : Option ClassFile.FieldType)) ∈ ALL := all_t3 (i := 101) rfl rfl
theorem wd_582 : (Cond.methodLink "EchoFair$World" (53 : Nat) ({ cls := "EchoFair$Echo", name := "copyFrom", desc := "(LEchoFair$Echo;)V" } : MethodName)) ∈ ALL := all_t3 (i := 102) rfl rfl
theorem wd_583 : (Cond.instanceMethod ({ cls := "EchoFair$Echo", name := "copyFrom", desc := "(LEchoFair$Echo;)V" } : MethodName)) ∈ ALL := all_t3 (i := 103) rfl rfl
theorem wd_584 : (Cond.selects "EchoFair$Echo" ({ cls := "EchoFair$Echo", name := "copyFrom", desc := "(LEchoFair$Echo;)V" } : MethodName) ({ cls := "EchoFair$Echo", name := "copyFrom", desc := "(LEchoFair$Echo;)V" } : MethodName)) ∈ ALL := all_t3 (i := 104) rfl rfl
theorem wd_585 : (Cond.code ({ cls := "EchoFair$Echo", name := "copyFrom", desc := "(LEchoFair$Echo;)V" } : MethodName) prog_5_method_3_code (2 : Nat) (Option.none : Option ClassFile.FieldType)) ∈ ALL := all_t3 (i := 105) rfl rfl
theorem wd_586 : (Cond.methodLink "EchoFair$World" (57 : Nat) ({ cls := "EchoFair$Valley", name := "copyFrom", desc := "(LEchoFair$Valley;)V" } : MethodName)) ∈ ALL := all_t3 (i := 106) rfl rfl
theorem wd_587 : (Cond.instanceMethod ({ cls := "EchoFair$Valley", name := "copyFrom", desc := "(LEchoFair$Valley;)V" } : MethodName)) ∈ ALL := all_t3 (i := 107) rfl rfl
theorem wd_588 : (Cond.selects "EchoFair$Valley" ({ cls := "EchoFair$Valley", name := "copyFrom", desc := "(LEchoFair$Valley;)V" } : MethodName) ({ cls := "EchoFair$Valley", name := "copyFrom", desc := "(LEchoFair$Valley;)V" } : MethodName)) ∈ ALL := all_t3 (i := 108) rfl rfl
theorem wd_589 : (Cond.code ({ cls := "EchoFair$Valley", name := "copyFrom", desc := "(LEchoFair$Valley;)V" } : MethodName) prog_10_method_3_code (2 : Nat) (Option.none : Option ClassFile.FieldType)) ∈ ALL := all_t3 (i := 109) rfl rfl
theorem wd_590 : (Cond.methodLink "EchoFair$Valley" (50 : Nat) ({ cls := "java/lang/System", name := "arraycopy", desc := "(Ljava/lang/Object;ILjava/lang/Object;II)V" } : MethodName)) ∈ ALL := all_t3 (i := 110) rfl rfl
theorem wd_591 : (Cond.static ({ cls := "java/lang/System", name := "arraycopy", desc := "(Ljava/lang/Object;ILjava/lang/Object;II)V" } : MethodName)) ∈ ALL := all_t3 (i := 111) rfl rfl
theorem wd_592 : (Cond.native ({ cls := "java/lang/System", name := "arraycopy", desc := "(Ljava/lang/Object;ILjava/lang/Object;II)V" } : MethodName)) ∈ ALL := all_t3 (i := 112) rfl rfl
theorem wd_593 : (Cond.methodLink "EchoFair" (389 : Nat) ({ cls := "EchoFair$Season", name := "copyFrom", desc := "(LEchoFair$Season;)V" } : MethodName)) ∈ ALL := all_t3 (i := 113) rfl rfl
theorem wd_594 : (Cond.instanceMethod ({ cls := "EchoFair$Season", name := "copyFrom", desc := "(LEchoFair$Season;)V" } : MethodName)) ∈ ALL := all_t3 (i := 114) rfl rfl
theorem wd_595 : (Cond.selects "EchoFair$Season" ({ cls := "EchoFair$Season", name := "copyFrom", desc := "(LEchoFair$Season;)V" } : MethodName) ({ cls := "EchoFair$Season", name := "copyFrom", desc := "(LEchoFair$Season;)V" } : MethodName)) ∈ ALL := all_t3 (i := 115) rfl rfl
theorem wd_596 : (Cond.code ({ cls := "EchoFair$Season", name := "copyFrom", desc := "(LEchoFair$Season;)V" } : MethodName) prog_8_method_2_code (2 : Nat) (Option.none : Option ClassFile.FieldType)) ∈ ALL := all_t3 (i := 116) rfl rfl
theorem wd_597 : (Cond.methodLink "EchoFair$Season" (19 : Nat) ({ cls := "java/lang/System", name := "arraycopy", desc := "(Ljava/lang/Object;ILjava/lang/Object;II)V" } : MethodName)) ∈ ALL := all_t3 (i := 117) rfl rfl
theorem wd_598 : (Cond.fieldLink "EchoFair" (14 : Nat) "EchoFair" "input" "LEchoFair$Buffer;") ∈ ALL := all_t3 (i := 118) rfl rfl
theorem wd_599 : (Cond.fieldLink "EchoFair" (18 : Nat) "EchoFair" "output" "LEchoFair$Buffer;") ∈ ALL := all_t3 (i := 119) rfl rfl
theorem wd_600 : (Cond.fieldLink "EchoFair" (24 : Nat) "EchoFair" "season" "LEchoFair$Season;") ∈ ALL := all_t3 (i := 120) rfl rfl
theorem wd_601 : (Cond.fieldLink "EchoFair" (31 : Nat) "EchoFair" "world" "LEchoFair$World;") ∈ ALL := all_t3 (i := 121) rfl rfl
theorem wd_602 : (Cond.fieldLink "EchoFair" (35 : Nat) "EchoFair" "draft" "LEchoFair$World;") ∈ ALL := all_t3 (i := 122) rfl rfl
theorem wd_603 : (Cond.fieldLink "EchoFair" (38 : Nat) "EchoFair" "draftSeason" "LEchoFair$Season;") ∈ ALL := all_t3 (i := 123) rfl rfl
theorem wd_604 : (Cond.fieldLink "EchoFair" (41 : Nat) "EchoFair" "saved" "LEchoFair$World;") ∈ ALL := all_t3 (i := 124) rfl rfl
theorem wd_605 : (Cond.fieldLink "EchoFair" (368 : Nat) "EchoFair" "hasSaved" "Z") ∈ ALL := all_t3 (i := 125) rfl rfl
theorem wd_606 : (Cond.fieldLink "EchoFair" (47 : Nat) "EchoFair" "history" "LEchoFair$History;") ∈ ALL := all_t3 (i := 126) rfl rfl
theorem wd_607 : (Cond.fieldLink "EchoFair" (54 : Nat) "EchoFair" "matching" "LEchoFair$Matching;") ∈ ALL := all_t3 (i := 127) rfl rfl
theorem wd_608 : (Cond.fieldLink "EchoFair" (63 : Nat) "EchoFair" "tokens" "LEchoFair$Tokens;") ∈ ALL := all_t3 (i := 128) rfl rfl
theorem wd_609 : (Cond.fieldLink "EchoFair" (72 : Nat) "EchoFair" "configuration" "LEchoFair$Configuration;") ∈ ALL := all_t3 (i := 129) rfl rfl
theorem wd_610 : (Cond.fieldLink "EchoFair" (81 : Nat) "EchoFair" "commands" "LEchoFair$Commands;") ∈ ALL := all_t3 (i := 130) rfl rfl
theorem wd_611 : (Cond.fieldLink "EchoFair" (152 : Nat) "EchoFair" "lastErrorCode" "I") ∈ ALL := all_t3 (i := 131) rfl rfl
theorem wd_612 : (Cond.fieldLink "EchoFair" (85 : Nat) "EchoFair" "lastErrorPosition" "I") ∈ ALL := all_t3 (i := 132) rfl rfl
theorem wd_613 : (Cond.laysFinal "EchoFair" "EchoFair" "input" "LEchoFair$Buffer;") ∈ ALL := all_t3 (i := 133) rfl rfl
theorem wd_615 : (Cond.laysFinal "EchoFair" "EchoFair" "output" "LEchoFair$Buffer;") ∈ ALL := all_t3 (i := 135) rfl rfl
theorem wd_617 : (Cond.laysFinal "EchoFair" "EchoFair" "season" "LEchoFair$Season;") ∈ ALL := all_t3 (i := 137) rfl rfl
theorem wd_619 : (Cond.laysFinal "EchoFair" "EchoFair" "world" "LEchoFair$World;") ∈ ALL := all_t3 (i := 139) rfl rfl
theorem wd_621 : (Cond.laysFinal "EchoFair" "EchoFair" "draft" "LEchoFair$World;") ∈ ALL := all_t3 (i := 141) rfl rfl
theorem wd_623 : (Cond.laysFinal "EchoFair" "EchoFair" "draftSeason" "LEchoFair$Season;") ∈ ALL := all_t3 (i := 143) rfl rfl
theorem wd_625 : (Cond.laysFinal "EchoFair" "EchoFair" "saved" "LEchoFair$World;") ∈ ALL := all_t3 (i := 145) rfl rfl
theorem wd_627 : (Cond.lays "EchoFair" "EchoFair" "hasSaved" "Z") ∈ ALL := all_t3 (i := 147) rfl rfl
theorem wd_629 : (Cond.laysFinal "EchoFair" "EchoFair" "history" "LEchoFair$History;") ∈ ALL := all_t3 (i := 149) rfl rfl
theorem wd_631 : (Cond.laysFinal "EchoFair" "EchoFair" "matching" "LEchoFair$Matching;") ∈ ALL := all_t3 (i := 151) rfl rfl
theorem wd_633 : (Cond.laysFinal "EchoFair" "EchoFair" "tokens" "LEchoFair$Tokens;") ∈ ALL := all_t3 (i := 153) rfl rfl
theorem wd_635 : (Cond.laysFinal "EchoFair" "EchoFair" "configuration" "LEchoFair$Configuration;") ∈ ALL := all_t3 (i := 155) rfl rfl
theorem wd_637 : (Cond.laysFinal "EchoFair" "EchoFair" "commands" "LEchoFair$Commands;") ∈ ALL := all_t3 (i := 157) rfl rfl
theorem wd_639 : (Cond.lays "EchoFair" "EchoFair" "lastErrorCode" "I") ∈ ALL := all_t3 (i := 159) rfl rfl
theorem wd_641 : (Cond.lays "EchoFair" "EchoFair" "lastErrorPosition" "I") ∈ ALL := all_t3 (i := 161) rfl rfl
theorem wd_645 : (Cond.instanceMethod ({ cls := "EchoFair", name := "errorCode", desc := "()I" } : MethodName)) ∈ ALL := all_t3 (i := 165) rfl rfl
theorem wd_646 : (Cond.selects "EchoFair" ({ cls := "EchoFair", name := "errorCode", desc := "()I" } : MethodName) ({ cls := "EchoFair", name := "errorCode", desc := "()I" } : MethodName)) ∈ ALL := all_t3 (i := 166) rfl rfl
theorem wd_647 : (Cond.code ({ cls := "EchoFair", name := "errorCode", desc := "()I" } : MethodName) prog_1_method_6_code (1 : Nat) (Option.some ClassFile.FieldType.int)) ∈ ALL := all_t3 (i := 167) rfl rfl
theorem wd_649 : (Cond.instanceMethod ({ cls := "EchoFair", name := "errorPosition", desc := "()I" } : MethodName)) ∈ ALL := all_t3 (i := 169) rfl rfl
theorem wd_650 : (Cond.selects "EchoFair" ({ cls := "EchoFair", name := "errorPosition", desc := "()I" } : MethodName) ({ cls := "EchoFair", name := "errorPosition", desc := "()I" } : MethodName)) ∈ ALL := all_t3 (i := 170) rfl rfl
theorem wd_651 : (Cond.code ({ cls := "EchoFair", name := "errorPosition", desc := "()I" } : MethodName) prog_1_method_7_code (1 : Nat) (Option.some ClassFile.FieldType.int)) ∈ ALL := all_t3 (i := 171) rfl rfl
theorem wd_653 : (Cond.instanceMethod ({ cls := "EchoFair", name := "echoCount", desc := "()I" } : MethodName)) ∈ ALL := all_t3 (i := 173) rfl rfl
theorem wd_654 : (Cond.selects "EchoFair" ({ cls := "EchoFair", name := "echoCount", desc := "()I" } : MethodName) ({ cls := "EchoFair", name := "echoCount", desc := "()I" } : MethodName)) ∈ ALL := all_t3 (i := 174) rfl rfl
theorem wd_655 : (Cond.code ({ cls := "EchoFair", name := "echoCount", desc := "()I" } : MethodName) prog_1_method_8_code (1 : Nat) (Option.some ClassFile.FieldType.int)) ∈ ALL := all_t3 (i := 175) rfl rfl
theorem wd_657 : (Cond.instanceMethod ({ cls := "EchoFair", name := "valleyCount", desc := "()I" } : MethodName)) ∈ ALL := all_t3 (i := 177) rfl rfl
theorem wd_658 : (Cond.selects "EchoFair" ({ cls := "EchoFair", name := "valleyCount", desc := "()I" } : MethodName) ({ cls := "EchoFair", name := "valleyCount", desc := "()I" } : MethodName)) ∈ ALL := all_t3 (i := 178) rfl rfl
theorem wd_659 : (Cond.code ({ cls := "EchoFair", name := "valleyCount", desc := "()I" } : MethodName) prog_1_method_9_code (1 : Nat) (Option.some ClassFile.FieldType.int)) ∈ ALL := all_t3 (i := 179) rfl rfl
theorem wd_661 : (Cond.instanceMethod ({ cls := "EchoFair", name := "day", desc := "()I" } : MethodName)) ∈ ALL := all_t3 (i := 181) rfl rfl
theorem wd_662 : (Cond.selects "EchoFair" ({ cls := "EchoFair", name := "day", desc := "()I" } : MethodName) ({ cls := "EchoFair", name := "day", desc := "()I" } : MethodName)) ∈ ALL := all_t3 (i := 182) rfl rfl
theorem wd_663 : (Cond.code ({ cls := "EchoFair", name := "day", desc := "()I" } : MethodName) prog_1_method_10_code (1 : Nat) (Option.some ClassFile.FieldType.int)) ∈ ALL := all_t3 (i := 183) rfl rfl
theorem wd_665 : (Cond.instanceMethod ({ cls := "EchoFair", name := "seasonLength", desc := "()I" } : MethodName)) ∈ ALL := all_t3 (i := 185) rfl rfl
theorem wd_666 : (Cond.selects "EchoFair" ({ cls := "EchoFair", name := "seasonLength", desc := "()I" } : MethodName) ({ cls := "EchoFair", name := "seasonLength", desc := "()I" } : MethodName)) ∈ ALL := all_t3 (i := 186) rfl rfl
theorem wd_667 : (Cond.code ({ cls := "EchoFair", name := "seasonLength", desc := "()I" } : MethodName) prog_1_method_11_code (1 : Nat) (Option.some ClassFile.FieldType.int)) ∈ ALL := all_t3 (i := 187) rfl rfl
theorem wd_669 : (Cond.instanceMethod ({ cls := "EchoFair", name := "findEcho", desc := "()I" } : MethodName)) ∈ ALL := all_t3 (i := 189) rfl rfl
theorem wd_670 : (Cond.selects "EchoFair" ({ cls := "EchoFair", name := "findEcho", desc := "()I" } : MethodName) ({ cls := "EchoFair", name := "findEcho", desc := "()I" } : MethodName)) ∈ ALL := all_t3 (i := 190) rfl rfl
theorem wd_671 : (Cond.code ({ cls := "EchoFair", name := "findEcho", desc := "()I" } : MethodName) prog_1_method_13_code (1 : Nat) (Option.some ClassFile.FieldType.int)) ∈ ALL := all_t3 (i := 191) rfl rfl
theorem wd_672 : (Cond.methodLink "EchoFair" (168 : Nat) ({ cls := "EchoFair$Buffer", name := "nameAt", desc := "(II)J" } : MethodName)) ∈ ALL := all_t3 (i := 192) rfl rfl
theorem wd_673 : (Cond.methodLink "EchoFair" (172 : Nat) ({ cls := "EchoFair$World", name := "echoNamed", desc := "(J)I" } : MethodName)) ∈ ALL := all_t3 (i := 193) rfl rfl
theorem wd_675 : (Cond.instanceMethod ({ cls := "EchoFair", name := "findValley", desc := "()I" } : MethodName)) ∈ ALL := all_t3 (i := 195) rfl rfl
theorem wd_676 : (Cond.selects "EchoFair" ({ cls := "EchoFair", name := "findValley", desc := "()I" } : MethodName) ({ cls := "EchoFair", name := "findValley", desc := "()I" } : MethodName)) ∈ ALL := all_t3 (i := 196) rfl rfl
theorem wd_677 : (Cond.code ({ cls := "EchoFair", name := "findValley", desc := "()I" } : MethodName) prog_1_method_14_code (1 : Nat) (Option.some ClassFile.FieldType.int)) ∈ ALL := all_t3 (i := 197) rfl rfl
theorem wd_678 : (Cond.methodLink "EchoFair" (176 : Nat) ({ cls := "EchoFair$World", name := "valleyNamed", desc := "(J)I" } : MethodName)) ∈ ALL := all_t3 (i := 198) rfl rfl
theorem wd_680 : (Cond.instanceMethod ({ cls := "EchoFair", name := "blockingPairs", desc := "()I" } : MethodName)) ∈ ALL := all_t3 (i := 200) rfl rfl
theorem wd_681 : (Cond.selects "EchoFair" ({ cls := "EchoFair", name := "blockingPairs", desc := "()I" } : MethodName) ({ cls := "EchoFair", name := "blockingPairs", desc := "()I" } : MethodName)) ∈ ALL := all_t3 (i := 201) rfl rfl
theorem wd_682 : (Cond.code ({ cls := "EchoFair", name := "blockingPairs", desc := "()I" } : MethodName) prog_1_method_33_code (4 : Nat) (Option.some ClassFile.FieldType.int)) ∈ ALL := all_t3 (i := 202) rfl rfl
theorem wd_683 : (Cond.methodLink "EchoFair" (266 : Nat) ({ cls := "EchoFair$World", name := "isBlocking", desc := "(II)Z" } : MethodName)) ∈ ALL := all_t3 (i := 203) rfl rfl
theorem wd_684 : (Cond.instanceMethod ({ cls := "EchoFair$World", name := "isBlocking", desc := "(II)Z" } : MethodName)) ∈ ALL := all_t3 (i := 204) rfl rfl
theorem wd_685 : (Cond.selects "EchoFair$World" ({ cls := "EchoFair$World", name := "isBlocking", desc := "(II)Z" } : MethodName) ({ cls := "EchoFair$World", name := "isBlocking", desc := "(II)Z" } : MethodName)) ∈ ALL := all_t3 (i := 205) rfl rfl
theorem wd_686 : (Cond.code ({ cls := "EchoFair$World", name := "isBlocking", desc := "(II)Z" } : MethodName) prog_11_method_14_code (3 : Nat) (Option.some ClassFile.FieldType.boolean)) ∈ ALL := all_t3 (i := 206) rfl rfl
theorem wd_687 : (Cond.methodLink "EchoFair$World" (98 : Nat) ({ cls := "EchoFair$World", name := "isAcceptable", desc := "(II)Z" } : MethodName)) ∈ ALL := all_t3 (i := 207) rfl rfl
theorem wd_688 : (Cond.instanceMethod ({ cls := "EchoFair$World", name := "isAcceptable", desc := "(II)Z" } : MethodName)) ∈ ALL := all_t3 (i := 208) rfl rfl
theorem wd_689 : (Cond.selects "EchoFair$World" ({ cls := "EchoFair$World", name := "isAcceptable", desc := "(II)Z" } : MethodName) ({ cls := "EchoFair$World", name := "isAcceptable", desc := "(II)Z" } : MethodName)) ∈ ALL := all_t3 (i := 209) rfl rfl
theorem wd_690 : (Cond.code ({ cls := "EchoFair$World", name := "isAcceptable", desc := "(II)Z" } : MethodName) prog_11_method_9_code (3 : Nat) (Option.some ClassFile.FieldType.boolean)) ∈ ALL := all_t3 (i := 210) rfl rfl
theorem wd_691 : (Cond.methodLink "EchoFair$World" (91 : Nat) ({ cls := "EchoFair$World", name := "scoreSeen", desc := "(II)I" } : MethodName)) ∈ ALL := all_t3 (i := 211) rfl rfl
theorem wd_692 : (Cond.instanceMethod ({ cls := "EchoFair$World", name := "scoreSeen", desc := "(II)I" } : MethodName)) ∈ ALL := all_t3 (i := 212) rfl rfl
theorem wd_693 : (Cond.selects "EchoFair$World" ({ cls := "EchoFair$World", name := "scoreSeen", desc := "(II)I" } : MethodName) ({ cls := "EchoFair$World", name := "scoreSeen", desc := "(II)I" } : MethodName)) ∈ ALL := all_t3 (i := 213) rfl rfl
theorem wd_694 : (Cond.code ({ cls := "EchoFair$World", name := "scoreSeen", desc := "(II)I" } : MethodName) prog_11_method_7_code (3 : Nat) (Option.some ClassFile.FieldType.int)) ∈ ALL := all_t3 (i := 214) rfl rfl
theorem wd_695 : (Cond.methodLink "EchoFair$World" (74 : Nat) ({ cls := "EchoFair$Valley", name := "hasTested", desc := "(I)Z" } : MethodName)) ∈ ALL := all_t3 (i := 215) rfl rfl
theorem wd_696 : (Cond.instanceMethod ({ cls := "EchoFair$Valley", name := "hasTested", desc := "(I)Z" } : MethodName)) ∈ ALL := all_t3 (i := 216) rfl rfl
theorem wd_697 : (Cond.selects "EchoFair$Valley" ({ cls := "EchoFair$Valley", name := "hasTested", desc := "(I)Z" } : MethodName) ({ cls := "EchoFair$Valley", name := "hasTested", desc := "(I)Z" } : MethodName)) ∈ ALL := all_t3 (i := 217) rfl rfl
theorem wd_698 : (Cond.code ({ cls := "EchoFair$Valley", name := "hasTested", desc := "(I)Z" } : MethodName) prog_10_method_4_code (2 : Nat) (Option.some ClassFile.FieldType.boolean)) ∈ ALL := all_t3 (i := 218) rfl rfl
theorem wd_699 : (Cond.methodLink "EchoFair$World" (78 : Nat) ({ cls := "EchoFair$World", name := "trueScore", desc := "(II)I" } : MethodName)) ∈ ALL := all_t3 (i := 219) rfl rfl
theorem wd_700 : (Cond.instanceMethod ({ cls := "EchoFair$World", name := "trueScore", desc := "(II)I" } : MethodName)) ∈ ALL := all_t3 (i := 220) rfl rfl
theorem wd_701 : (Cond.selects "EchoFair$World" ({ cls := "EchoFair$World", name := "trueScore", desc := "(II)I" } : MethodName) ({ cls := "EchoFair$World", name := "trueScore", desc := "(II)I" } : MethodName)) ∈ ALL := all_t3 (i := 221) rfl rfl
theorem wd_702 : (Cond.code ({ cls := "EchoFair$World", name := "trueScore", desc := "(II)I" } : MethodName) prog_11_method_6_code (4 : Nat) (Option.some ClassFile.FieldType.int)) ∈ ALL := all_t3 (i := 222) rfl rfl
theorem wd_703 : (Cond.methodLink "EchoFair$World" (94 : Nat) ({ cls := "EchoFair$World", name := "reasonAt", desc := "(III)I" } : MethodName)) ∈ ALL := all_t3 (i := 223) rfl rfl
theorem wd_704 : (Cond.instanceMethod ({ cls := "EchoFair$World", name := "reasonAt", desc := "(III)I" } : MethodName)) ∈ ALL := all_t3 (i := 224) rfl rfl
theorem wd_705 : (Cond.selects "EchoFair$World" ({ cls := "EchoFair$World", name := "reasonAt", desc := "(III)I" } : MethodName) ({ cls := "EchoFair$World", name := "reasonAt", desc := "(III)I" } : MethodName)) ∈ ALL := all_t3 (i := 225) rfl rfl
theorem wd_706 : (Cond.code ({ cls := "EchoFair$World", name := "reasonAt", desc := "(III)I" } : MethodName) prog_11_method_8_code (4 : Nat) (Option.some ClassFile.FieldType.int)) ∈ ALL := all_t3 (i := 226) rfl rfl
theorem wd_707 : (Cond.methodLink "EchoFair$World" (88 : Nat) ({ cls := "EchoFair$Valley", name := "hasLost", desc := "(I)Z" } : MethodName)) ∈ ALL := all_t3 (i := 227) rfl rfl
theorem wd_708 : (Cond.instanceMethod ({ cls := "EchoFair$Valley", name := "hasLost", desc := "(I)Z" } : MethodName)) ∈ ALL := all_t3 (i := 228) rfl rfl
theorem wd_709 : (Cond.selects "EchoFair$Valley" ({ cls := "EchoFair$Valley", name := "hasLost", desc := "(I)Z" } : MethodName) ({ cls := "EchoFair$Valley", name := "hasLost", desc := "(I)Z" } : MethodName)) ∈ ALL := all_t3 (i := 229) rfl rfl
theorem wd_710 : (Cond.code ({ cls := "EchoFair$Valley", name := "hasLost", desc := "(I)Z" } : MethodName) prog_10_method_6_code (2 : Nat) (Option.some ClassFile.FieldType.boolean)) ∈ ALL := all_t3 (i := 230) rfl rfl
theorem wd_711 : (Cond.methodLink "EchoFair$World" (112 : Nat) ({ cls := "EchoFair$World", name := "wouldMove", desc := "(II)Z" } : MethodName)) ∈ ALL := all_t3 (i := 231) rfl rfl
theorem wd_712 : (Cond.instanceMethod ({ cls := "EchoFair$World", name := "wouldMove", desc := "(II)Z" } : MethodName)) ∈ ALL := all_t3 (i := 232) rfl rfl
theorem wd_713 : (Cond.selects "EchoFair$World" ({ cls := "EchoFair$World", name := "wouldMove", desc := "(II)Z" } : MethodName) ({ cls := "EchoFair$World", name := "wouldMove", desc := "(II)Z" } : MethodName)) ∈ ALL := all_t3 (i := 233) rfl rfl
theorem wd_714 : (Cond.code ({ cls := "EchoFair$World", name := "wouldMove", desc := "(II)Z" } : MethodName) prog_11_method_15_code (4 : Nat) (Option.some ClassFile.FieldType.boolean)) ∈ ALL := all_t3 (i := 234) rfl rfl
theorem wd_715 : (Cond.methodLink "EchoFair$World" (102 : Nat) ({ cls := "EchoFair$World", name := "paysBetter", desc := "(II)Z" } : MethodName)) ∈ ALL := all_t3 (i := 235) rfl rfl
theorem wd_716 : (Cond.instanceMethod ({ cls := "EchoFair$World", name := "paysBetter", desc := "(II)Z" } : MethodName)) ∈ ALL := all_t3 (i := 236) rfl rfl
theorem wd_717 : (Cond.selects "EchoFair$World" ({ cls := "EchoFair$World", name := "paysBetter", desc := "(II)Z" } : MethodName) ({ cls := "EchoFair$World", name := "paysBetter", desc := "(II)Z" } : MethodName)) ∈ ALL := all_t3 (i := 237) rfl rfl
theorem wd_718 : (Cond.code ({ cls := "EchoFair$World", name := "paysBetter", desc := "(II)Z" } : MethodName) prog_11_method_10_code (5 : Nat) (Option.some ClassFile.FieldType.boolean)) ∈ ALL := all_t3 (i := 238) rfl rfl
theorem wd_719 : (Cond.methodLink "EchoFair$World" (115 : Nat) ({ cls := "EchoFair$World", name := "wouldTake", desc := "(II)Z" } : MethodName)) ∈ ALL := all_t3 (i := 239) rfl rfl
theorem wd_720 : (Cond.instanceMethod ({ cls := "EchoFair$World", name := "wouldTake", desc := "(II)Z" } : MethodName)) ∈ ALL := all_t4 (i := 0) rfl rfl
theorem wd_721 : (Cond.selects "EchoFair$World" ({ cls := "EchoFair$World", name := "wouldTake", desc := "(II)Z" } : MethodName) ({ cls := "EchoFair$World", name := "wouldTake", desc := "(II)Z" } : MethodName)) ∈ ALL := all_t4 (i := 1) rfl rfl
theorem wd_722 : (Cond.code ({ cls := "EchoFair$World", name := "wouldTake", desc := "(II)Z" } : MethodName) prog_11_method_16_code (5 : Nat) (Option.some ClassFile.FieldType.boolean)) ∈ ALL := all_t4 (i := 2) rfl rfl
theorem wd_723 : (Cond.methodLink "EchoFair$World" (118 : Nat) ({ cls := "EchoFair$Valley", name := "hasFreePost", desc := "()Z" } : MethodName)) ∈ ALL := all_t4 (i := 3) rfl rfl
theorem wd_724 : (Cond.instanceMethod ({ cls := "EchoFair$Valley", name := "hasFreePost", desc := "()Z" } : MethodName)) ∈ ALL := all_t4 (i := 4) rfl rfl
theorem wd_725 : (Cond.selects "EchoFair$Valley" ({ cls := "EchoFair$Valley", name := "hasFreePost", desc := "()Z" } : MethodName) ({ cls := "EchoFair$Valley", name := "hasFreePost", desc := "()Z" } : MethodName)) ∈ ALL := all_t4 (i := 5) rfl rfl
theorem wd_726 : (Cond.code ({ cls := "EchoFair$Valley", name := "hasFreePost", desc := "()Z" } : MethodName) prog_10_method_7_code (1 : Nat) (Option.some ClassFile.FieldType.boolean)) ∈ ALL := all_t4 (i := 6) rfl rfl
theorem wd_727 : (Cond.methodLink "EchoFair$World" (105 : Nat) ({ cls := "EchoFair$World", name := "prefersEcho", desc := "(III)Z" } : MethodName)) ∈ ALL := all_t4 (i := 7) rfl rfl
theorem wd_728 : (Cond.instanceMethod ({ cls := "EchoFair$World", name := "prefersEcho", desc := "(III)Z" } : MethodName)) ∈ ALL := all_t4 (i := 8) rfl rfl
theorem wd_729 : (Cond.selects "EchoFair$World" ({ cls := "EchoFair$World", name := "prefersEcho", desc := "(III)Z" } : MethodName) ({ cls := "EchoFair$World", name := "prefersEcho", desc := "(III)Z" } : MethodName)) ∈ ALL := all_t4 (i := 9) rfl rfl
theorem wd_730 : (Cond.code ({ cls := "EchoFair$World", name := "prefersEcho", desc := "(III)Z" } : MethodName) prog_11_method_11_code (6 : Nat) (Option.some ClassFile.FieldType.boolean)) ∈ ALL := all_t4 (i := 10) rfl rfl
theorem wd_732 : (Cond.instanceMethod ({ cls := "EchoFair", name := "richestEcho", desc := "()I" } : MethodName)) ∈ ALL := all_t4 (i := 12) rfl rfl
theorem wd_733 : (Cond.selects "EchoFair" ({ cls := "EchoFair", name := "richestEcho", desc := "()I" } : MethodName) ({ cls := "EchoFair", name := "richestEcho", desc := "()I" } : MethodName)) ∈ ALL := all_t4 (i := 13) rfl rfl
theorem wd_734 : (Cond.code ({ cls := "EchoFair", name := "richestEcho", desc := "()I" } : MethodName) prog_1_method_40_code (3 : Nat) (Option.some ClassFile.FieldType.int)) ∈ ALL := all_t4 (i := 14) rfl rfl
theorem wd_736 : (Cond.instanceMethod ({ cls := "EchoFair", name := "contractsMade", desc := "()I" } : MethodName)) ∈ ALL := all_t4 (i := 16) rfl rfl
theorem wd_737 : (Cond.selects "EchoFair" ({ cls := "EchoFair", name := "contractsMade", desc := "()I" } : MethodName) ({ cls := "EchoFair", name := "contractsMade", desc := "()I" } : MethodName)) ∈ ALL := all_t4 (i := 17) rfl rfl
theorem wd_738 : (Cond.code ({ cls := "EchoFair", name := "contractsMade", desc := "()I" } : MethodName) prog_1_method_42_code (1 : Nat) (Option.some ClassFile.FieldType.int)) ∈ ALL := all_t4 (i := 18) rfl rfl
theorem wd_740 : (Cond.instanceMethod ({ cls := "EchoFair", name := "contractsEnded", desc := "()I" } : MethodName)) ∈ ALL := all_t4 (i := 20) rfl rfl
theorem wd_741 : (Cond.selects "EchoFair" ({ cls := "EchoFair", name := "contractsEnded", desc := "()I" } : MethodName) ({ cls := "EchoFair", name := "contractsEnded", desc := "()I" } : MethodName)) ∈ ALL := all_t4 (i := 21) rfl rfl
theorem wd_742 : (Cond.code ({ cls := "EchoFair", name := "contractsEnded", desc := "()I" } : MethodName) prog_1_method_43_code (1 : Nat) (Option.some ClassFile.FieldType.int)) ∈ ALL := all_t4 (i := 22) rfl rfl
theorem wd_744 : (Cond.instanceMethod ({ cls := "EchoFair", name := "moneyImbalance", desc := "()I" } : MethodName)) ∈ ALL := all_t4 (i := 24) rfl rfl
theorem wd_745 : (Cond.selects "EchoFair" ({ cls := "EchoFair", name := "moneyImbalance", desc := "()I" } : MethodName) ({ cls := "EchoFair", name := "moneyImbalance", desc := "()I" } : MethodName)) ∈ ALL := all_t4 (i := 25) rfl rfl
theorem wd_746 : (Cond.code ({ cls := "EchoFair", name := "moneyImbalance", desc := "()I" } : MethodName) prog_1_method_47_code (1 : Nat) (Option.some ClassFile.FieldType.int)) ∈ ALL := all_t4 (i := 26) rfl rfl
theorem wd_747 : (Cond.methodLink "EchoFair" (323 : Nat) ({ cls := "EchoFair$World", name := "moneyInPurses", desc := "()I" } : MethodName)) ∈ ALL := all_t4 (i := 27) rfl rfl
theorem wd_748 : (Cond.instanceMethod ({ cls := "EchoFair$World", name := "moneyInPurses", desc := "()I" } : MethodName)) ∈ ALL := all_t4 (i := 28) rfl rfl
theorem wd_749 : (Cond.selects "EchoFair$World" ({ cls := "EchoFair$World", name := "moneyInPurses", desc := "()I" } : MethodName) ({ cls := "EchoFair$World", name := "moneyInPurses", desc := "()I" } : MethodName)) ∈ ALL := all_t4 (i := 29) rfl rfl
theorem wd_750 : (Cond.code ({ cls := "EchoFair$World", name := "moneyInPurses", desc := "()I" } : MethodName) prog_11_method_27_code (3 : Nat) (Option.some ClassFile.FieldType.int)) ∈ ALL := all_t4 (i := 30) rfl rfl
theorem wd_751 : (Cond.methodLink "EchoFair" (326 : Nat) ({ cls := "EchoFair$World", name := "moneySaved", desc := "()I" } : MethodName)) ∈ ALL := all_t4 (i := 31) rfl rfl
theorem wd_752 : (Cond.instanceMethod ({ cls := "EchoFair$World", name := "moneySaved", desc := "()I" } : MethodName)) ∈ ALL := all_t4 (i := 32) rfl rfl
theorem wd_753 : (Cond.selects "EchoFair$World" ({ cls := "EchoFair$World", name := "moneySaved", desc := "()I" } : MethodName) ({ cls := "EchoFair$World", name := "moneySaved", desc := "()I" } : MethodName)) ∈ ALL := all_t4 (i := 33) rfl rfl
theorem wd_754 : (Cond.code ({ cls := "EchoFair$World", name := "moneySaved", desc := "()I" } : MethodName) prog_11_method_28_code (3 : Nat) (Option.some ClassFile.FieldType.int)) ∈ ALL := all_t4 (i := 34) rfl rfl
theorem wd_756 : (Cond.instanceMethod ({ cls := "EchoFair", name := "contractImbalance", desc := "()I" } : MethodName)) ∈ ALL := all_t4 (i := 36) rfl rfl
theorem wd_757 : (Cond.selects "EchoFair" ({ cls := "EchoFair", name := "contractImbalance", desc := "()I" } : MethodName) ({ cls := "EchoFair", name := "contractImbalance", desc := "()I" } : MethodName)) ∈ ALL := all_t4 (i := 37) rfl rfl
theorem wd_758 : (Cond.code ({ cls := "EchoFair", name := "contractImbalance", desc := "()I" } : MethodName) prog_1_method_48_code (1 : Nat) (Option.some ClassFile.FieldType.int)) ∈ ALL := all_t4 (i := 38) rfl rfl
theorem wd_759 : (Cond.methodLink "EchoFair" (329 : Nat) ({ cls := "EchoFair$World", name := "contracts", desc := "()I" } : MethodName)) ∈ ALL := all_t4 (i := 39) rfl rfl
theorem wd_760 : (Cond.instanceMethod ({ cls := "EchoFair$World", name := "contracts", desc := "()I" } : MethodName)) ∈ ALL := all_t4 (i := 40) rfl rfl
theorem wd_761 : (Cond.selects "EchoFair$World" ({ cls := "EchoFair$World", name := "contracts", desc := "()I" } : MethodName) ({ cls := "EchoFair$World", name := "contracts", desc := "()I" } : MethodName)) ∈ ALL := all_t4 (i := 41) rfl rfl
theorem wd_762 : (Cond.code ({ cls := "EchoFair$World", name := "contracts", desc := "()I" } : MethodName) prog_11_method_29_code (3 : Nat) (Option.some ClassFile.FieldType.int)) ∈ ALL := all_t4 (i := 42) rfl rfl
theorem wd_764 : (Cond.instanceMethod ({ cls := "EchoFair", name := "doubleServants", desc := "()I" } : MethodName)) ∈ ALL := all_t4 (i := 44) rfl rfl
theorem wd_765 : (Cond.selects "EchoFair" ({ cls := "EchoFair", name := "doubleServants", desc := "()I" } : MethodName) ({ cls := "EchoFair", name := "doubleServants", desc := "()I" } : MethodName)) ∈ ALL := all_t4 (i := 45) rfl rfl
theorem wd_766 : (Cond.code ({ cls := "EchoFair", name := "doubleServants", desc := "()I" } : MethodName) prog_1_method_49_code (3 : Nat) (Option.some ClassFile.FieldType.int)) ∈ ALL := all_t4 (i := 46) rfl rfl
theorem wd_767 : (Cond.methodLink "EchoFair" (332 : Nat) ({ cls := "EchoFair$World", name := "valleysServedBy", desc := "(I)I" } : MethodName)) ∈ ALL := all_t4 (i := 47) rfl rfl
theorem wd_768 : (Cond.instanceMethod ({ cls := "EchoFair$World", name := "valleysServedBy", desc := "(I)I" } : MethodName)) ∈ ALL := all_t4 (i := 48) rfl rfl
theorem wd_769 : (Cond.selects "EchoFair$World" ({ cls := "EchoFair$World", name := "valleysServedBy", desc := "(I)I" } : MethodName) ({ cls := "EchoFair$World", name := "valleysServedBy", desc := "(I)I" } : MethodName)) ∈ ALL := all_t4 (i := 49) rfl rfl
theorem wd_770 : (Cond.code ({ cls := "EchoFair$World", name := "valleysServedBy", desc := "(I)I" } : MethodName) prog_11_method_30_code (5 : Nat) (Option.some ClassFile.FieldType.int)) ∈ ALL := all_t4 (i := 50) rfl rfl
theorem wd_772 : (Cond.instanceMethod ({ cls := "EchoFair", name := "meanSavings", desc := "()D" } : MethodName)) ∈ ALL := all_t4 (i := 52) rfl rfl
theorem wd_773 : (Cond.selects "EchoFair" ({ cls := "EchoFair", name := "meanSavings", desc := "()D" } : MethodName) ({ cls := "EchoFair", name := "meanSavings", desc := "()D" } : MethodName)) ∈ ALL := all_t4 (i := 53) rfl rfl
theorem wd_774 : (Cond.code ({ cls := "EchoFair", name := "meanSavings", desc := "()D" } : MethodName) prog_1_method_50_code (1 : Nat) (Option.some ClassFile.FieldType.double)) ∈ ALL := all_t4 (i := 54) rfl rfl
theorem wd_776 : (Cond.instanceMethod ({ cls := "EchoFair", name := "employmentRate", desc := "()F" } : MethodName)) ∈ ALL := all_t4 (i := 56) rfl rfl
theorem wd_777 : (Cond.selects "EchoFair" ({ cls := "EchoFair", name := "employmentRate", desc := "()F" } : MethodName) ({ cls := "EchoFair", name := "employmentRate", desc := "()F" } : MethodName)) ∈ ALL := all_t4 (i := 57) rfl rfl
theorem wd_778 : (Cond.code ({ cls := "EchoFair", name := "employmentRate", desc := "()F" } : MethodName) prog_1_method_51_code (3 : Nat) (Option.some ClassFile.FieldType.float)) ∈ ALL := all_t4 (i := 58) rfl rfl
theorem wd_780 : (Cond.instanceMethod ({ cls := "EchoFair", name := "holdFair", desc := "()I" } : MethodName)) ∈ ALL := all_t4 (i := 60) rfl rfl
theorem wd_781 : (Cond.selects "EchoFair" ({ cls := "EchoFair", name := "holdFair", desc := "()I" } : MethodName) ({ cls := "EchoFair", name := "holdFair", desc := "()I" } : MethodName)) ∈ ALL := all_t4 (i := 61) rfl rfl
theorem wd_782 : (Cond.code ({ cls := "EchoFair", name := "holdFair", desc := "()I" } : MethodName) prog_1_method_53_code (1 : Nat) (Option.some ClassFile.FieldType.int)) ∈ ALL := all_t4 (i := 62) rfl rfl
theorem wd_783 : (Cond.methodLink "EchoFair" (141 : Nat) ({ cls := "EchoFair$History", name := "push", desc := "(LEchoFair$World;)V" } : MethodName)) ∈ ALL := all_t4 (i := 63) rfl rfl
theorem wd_784 : (Cond.instanceMethod ({ cls := "EchoFair$History", name := "push", desc := "(LEchoFair$World;)V" } : MethodName)) ∈ ALL := all_t4 (i := 64) rfl rfl
theorem wd_785 : (Cond.selects "EchoFair$History" ({ cls := "EchoFair$History", name := "push", desc := "(LEchoFair$World;)V" } : MethodName) ({ cls := "EchoFair$History", name := "push", desc := "(LEchoFair$World;)V" } : MethodName)) ∈ ALL := all_t4 (i := 65) rfl rfl
theorem wd_786 : (Cond.code ({ cls := "EchoFair$History", name := "push", desc := "(LEchoFair$World;)V" } : MethodName) prog_6_method_2_code (2 : Nat) (Option.none : Option ClassFile.FieldType)) ∈ ALL := all_t4 (i := 66) rfl rfl
theorem wd_787 : (Cond.methodLink "EchoFair$History" (22 : Nat) ({ cls := "EchoFair$World", name := "copyFrom", desc := "(LEchoFair$World;)V" } : MethodName)) ∈ ALL := all_t4 (i := 67) rfl rfl
theorem wd_788 : (Cond.methodLink "EchoFair" (272 : Nat) ({ cls := "EchoFair$Matching", name := "hold", desc := "(LEchoFair$World;)I" } : MethodName)) ∈ ALL := all_t4 (i := 68) rfl rfl
theorem wd_789 : (Cond.instanceMethod ({ cls := "EchoFair$Matching", name := "hold", desc := "(LEchoFair$World;)I" } : MethodName)) ∈ ALL := all_t4 (i := 69) rfl rfl
theorem wd_790 : (Cond.selects "EchoFair$Matching" ({ cls := "EchoFair$Matching", name := "hold", desc := "(LEchoFair$World;)I" } : MethodName) ({ cls := "EchoFair$Matching", name := "hold", desc := "(LEchoFair$World;)I" } : MethodName)) ∈ ALL := all_t4 (i := 70) rfl rfl
theorem wd_791 : (Cond.code ({ cls := "EchoFair$Matching", name := "hold", desc := "(LEchoFair$World;)I" } : MethodName) prog_7_method_2_code (5 : Nat) (Option.some ClassFile.FieldType.int)) ∈ ALL := all_t4 (i := 71) rfl rfl
theorem wd_792 : (Cond.methodLink "EchoFair$Matching" (27 : Nat) ({ cls := "EchoFair$Matching", name := "enrol", desc := "(LEchoFair$World;)V" } : MethodName)) ∈ ALL := all_t4 (i := 72) rfl rfl
theorem wd_794 : (Cond.instanceMethod ({ cls := "EchoFair$Matching", name := "enrol", desc := "(LEchoFair$World;)V" } : MethodName)) ∈ ALL := all_t4 (i := 74) rfl rfl
theorem wd_795 : (Cond.code ({ cls := "EchoFair$Matching", name := "enrol", desc := "(LEchoFair$World;)V" } : MethodName) prog_7_method_3_code (3 : Nat) (Option.none : Option ClassFile.FieldType)) ∈ ALL := all_t4 (i := 75) rfl rfl
theorem wd_796 : (Cond.methodLink "EchoFair$Matching" (79 : Nat) ({ cls := "EchoFair$Matching", name := "enqueue", desc := "(I)V" } : MethodName)) ∈ ALL := all_t4 (i := 76) rfl rfl
theorem wd_798 : (Cond.instanceMethod ({ cls := "EchoFair$Matching", name := "enqueue", desc := "(I)V" } : MethodName)) ∈ ALL := all_t4 (i := 78) rfl rfl
theorem wd_799 : (Cond.code ({ cls := "EchoFair$Matching", name := "enqueue", desc := "(I)V" } : MethodName) prog_7_method_5_code (2 : Nat) (Option.none : Option ClassFile.FieldType)) ∈ ALL := all_t4 (i := 79) rfl rfl
theorem wd_800 : (Cond.methodLink "EchoFair$Matching" (31 : Nat) ({ cls := "EchoFair$Matching", name := "weigh", desc := "(LEchoFair$World;)V" } : MethodName)) ∈ ALL := all_t4 (i := 80) rfl rfl
theorem wd_802 : (Cond.instanceMethod ({ cls := "EchoFair$Matching", name := "weigh", desc := "(LEchoFair$World;)V" } : MethodName)) ∈ ALL := all_t4 (i := 82) rfl rfl
theorem wd_803 : (Cond.code ({ cls := "EchoFair$Matching", name := "weigh", desc := "(LEchoFair$World;)V" } : MethodName) prog_7_method_4_code (5 : Nat) (Option.none : Option ClassFile.FieldType)) ∈ ALL := all_t4 (i := 83) rfl rfl
theorem wd_804 : (Cond.methodLink "EchoFair$Matching" (83 : Nat) ({ cls := "EchoFair$World", name := "scoreSeen", desc := "(II)I" } : MethodName)) ∈ ALL := all_t4 (i := 84) rfl rfl
theorem wd_805 : (Cond.methodLink "EchoFair$Matching" (87 : Nat) ({ cls := "EchoFair$World", name := "reasonAt", desc := "(III)I" } : MethodName)) ∈ ALL := all_t4 (i := 85) rfl rfl
theorem wd_806 : (Cond.methodLink "EchoFair$Matching" (38 : Nat) ({ cls := "EchoFair$Matching", name := "favourite", desc := "(LEchoFair$World;I)I" } : MethodName)) ∈ ALL := all_t4 (i := 86) rfl rfl
theorem wd_808 : (Cond.instanceMethod ({ cls := "EchoFair$Matching", name := "favourite", desc := "(LEchoFair$World;I)I" } : MethodName)) ∈ ALL := all_t4 (i := 88) rfl rfl
theorem wd_809 : (Cond.code ({ cls := "EchoFair$Matching", name := "favourite", desc := "(LEchoFair$World;I)I" } : MethodName) prog_7_method_6_code (6 : Nat) (Option.some ClassFile.FieldType.int)) ∈ ALL := all_t4 (i := 89) rfl rfl
theorem wd_810 : (Cond.methodLink "EchoFair$Matching" (91 : Nat) ({ cls := "EchoFair$World", name := "paysBetter", desc := "(II)Z" } : MethodName)) ∈ ALL := all_t4 (i := 90) rfl rfl
theorem wd_811 : (Cond.methodLink "EchoFair$Matching" (42 : Nat) ({ cls := "EchoFair$Matching", name := "apply", desc := "(LEchoFair$World;II)V" } : MethodName)) ∈ ALL := all_t4 (i := 91) rfl rfl
theorem wd_813 : (Cond.instanceMethod ({ cls := "EchoFair$Matching", name := "apply", desc := "(LEchoFair$World;II)V" } : MethodName)) ∈ ALL := all_t4 (i := 93) rfl rfl
theorem wd_814 : (Cond.code ({ cls := "EchoFair$Matching", name := "apply", desc := "(LEchoFair$World;II)V" } : MethodName) prog_7_method_7_code (5 : Nat) (Option.none : Option ClassFile.FieldType)) ∈ ALL := all_t4 (i := 94) rfl rfl
theorem wd_815 : (Cond.methodLink "EchoFair$Matching" (95 : Nat) ({ cls := "EchoFair$Matching", name := "leastKept", desc := "(LEchoFair$World;I)I" } : MethodName)) ∈ ALL := all_t4 (i := 95) rfl rfl
theorem wd_817 : (Cond.instanceMethod ({ cls := "EchoFair$Matching", name := "leastKept", desc := "(LEchoFair$World;I)I" } : MethodName)) ∈ ALL := all_t4 (i := 97) rfl rfl
theorem wd_818 : (Cond.code ({ cls := "EchoFair$Matching", name := "leastKept", desc := "(LEchoFair$World;I)I" } : MethodName) prog_7_method_8_code (5 : Nat) (Option.some ClassFile.FieldType.int)) ∈ ALL := all_t4 (i := 98) rfl rfl
theorem wd_819 : (Cond.methodLink "EchoFair$Matching" (98 : Nat) ({ cls := "EchoFair$Matching", name := "prefers", desc := "(III)Z" } : MethodName)) ∈ ALL := all_t4 (i := 99) rfl rfl
theorem wd_821 : (Cond.instanceMethod ({ cls := "EchoFair$Matching", name := "prefers", desc := "(III)Z" } : MethodName)) ∈ ALL := all_t4 (i := 101) rfl rfl
theorem wd_822 : (Cond.code ({ cls := "EchoFair$Matching", name := "prefers", desc := "(III)Z" } : MethodName) prog_7_method_9_code (6 : Nat) (Option.some ClassFile.FieldType.boolean)) ∈ ALL := all_t4 (i := 102) rfl rfl
theorem wd_823 : (Cond.methodLink "EchoFair$Matching" (46 : Nat) ({ cls := "EchoFair$Matching", name := "sign", desc := "(LEchoFair$World;)I" } : MethodName)) ∈ ALL := all_t4 (i := 103) rfl rfl
theorem wd_825 : (Cond.instanceMethod ({ cls := "EchoFair$Matching", name := "sign", desc := "(LEchoFair$World;)I" } : MethodName)) ∈ ALL := all_t4 (i := 105) rfl rfl
theorem wd_826 : (Cond.code ({ cls := "EchoFair$Matching", name := "sign", desc := "(LEchoFair$World;)I" } : MethodName) prog_7_method_10_code (5 : Nat) (Option.some ClassFile.FieldType.int)) ∈ ALL := all_t4 (i := 106) rfl rfl
theorem wd_827 : (Cond.methodLink "EchoFair$Matching" (102 : Nat) ({ cls := "EchoFair$World", name := "employ", desc := "(II)V" } : MethodName)) ∈ ALL := all_t4 (i := 107) rfl rfl
theorem wd_828 : (Cond.instanceMethod ({ cls := "EchoFair$World", name := "employ", desc := "(II)V" } : MethodName)) ∈ ALL := all_t4 (i := 108) rfl rfl
theorem wd_829 : (Cond.selects "EchoFair$World" ({ cls := "EchoFair$World", name := "employ", desc := "(II)V" } : MethodName) ({ cls := "EchoFair$World", name := "employ", desc := "(II)V" } : MethodName)) ∈ ALL := all_t4 (i := 109) rfl rfl
theorem wd_830 : (Cond.code ({ cls := "EchoFair$World", name := "employ", desc := "(II)V" } : MethodName) prog_11_method_18_code (3 : Nat) (Option.none : Option ClassFile.FieldType)) ∈ ALL := all_t4 (i := 110) rfl rfl
theorem wd_831 : (Cond.methodLink "EchoFair$World" (129 : Nat) ({ cls := "EchoFair$Valley", name := "hire", desc := "(I)V" } : MethodName)) ∈ ALL := all_t4 (i := 111) rfl rfl
theorem wd_832 : (Cond.instanceMethod ({ cls := "EchoFair$Valley", name := "hire", desc := "(I)V" } : MethodName)) ∈ ALL := all_t4 (i := 112) rfl rfl
theorem wd_833 : (Cond.selects "EchoFair$Valley" ({ cls := "EchoFair$Valley", name := "hire", desc := "(I)V" } : MethodName) ({ cls := "EchoFair$Valley", name := "hire", desc := "(I)V" } : MethodName)) ∈ ALL := all_t4 (i := 113) rfl rfl
theorem wd_834 : (Cond.code ({ cls := "EchoFair$Valley", name := "hire", desc := "(I)V" } : MethodName) prog_10_method_8_code (2 : Nat) (Option.none : Option ClassFile.FieldType)) ∈ ALL := all_t4 (i := 114) rfl rfl
theorem wd_836 : (Cond.instanceMethod ({ cls := "EchoFair", name := "save", desc := "()I" } : MethodName)) ∈ ALL := all_t4 (i := 116) rfl rfl
theorem wd_837 : (Cond.selects "EchoFair" ({ cls := "EchoFair", name := "save", desc := "()I" } : MethodName) ({ cls := "EchoFair", name := "save", desc := "()I" } : MethodName)) ∈ ALL := all_t4 (i := 117) rfl rfl
theorem wd_838 : (Cond.code ({ cls := "EchoFair", name := "save", desc := "()I" } : MethodName) prog_1_method_60_code (1 : Nat) (Option.some ClassFile.FieldType.int)) ∈ ALL := all_t4 (i := 118) rfl rfl
theorem wd_840 : (Cond.instanceMethod ({ cls := "EchoFair", name := "formatContracts", desc := "()I" } : MethodName)) ∈ ALL := all_t4 (i := 120) rfl rfl
theorem wd_841 : (Cond.selects "EchoFair" ({ cls := "EchoFair", name := "formatContracts", desc := "()I" } : MethodName) ({ cls := "EchoFair", name := "formatContracts", desc := "()I" } : MethodName)) ∈ ALL := all_t4 (i := 121) rfl rfl
theorem wd_842 : (Cond.code ({ cls := "EchoFair", name := "formatContracts", desc := "()I" } : MethodName) prog_1_method_62_code (2 : Nat) (Option.some ClassFile.FieldType.int)) ∈ ALL := all_t4 (i := 122) rfl rfl
theorem wd_843 : (Cond.methodLink "EchoFair" (374 : Nat) ({ cls := "EchoFair", name := "writeContracts", desc := "(LEchoFair$Valley;)V" } : MethodName)) ∈ ALL := all_t4 (i := 123) rfl rfl
theorem wd_845 : (Cond.instanceMethod ({ cls := "EchoFair", name := "writeContracts", desc := "(LEchoFair$Valley;)V" } : MethodName)) ∈ ALL := all_t4 (i := 125) rfl rfl
theorem wd_846 : (Cond.code ({ cls := "EchoFair", name := "writeContracts", desc := "(LEchoFair$Valley;)V" } : MethodName) prog_1_method_74_code (3 : Nat) (Option.none : Option ClassFile.FieldType)) ∈ ALL := all_t4 (i := 126) rfl rfl
theorem wd_847 : (Cond.methodLink "EchoFair" (423 : Nat) ({ cls := "EchoFair$Buffer", name := "addName", desc := "(J)V" } : MethodName)) ∈ ALL := all_t4 (i := 127) rfl rfl
theorem wd_848 : (Cond.instanceMethod ({ cls := "EchoFair$Buffer", name := "addName", desc := "(J)V" } : MethodName)) ∈ ALL := all_t4 (i := 128) rfl rfl
theorem wd_849 : (Cond.selects "EchoFair$Buffer" ({ cls := "EchoFair$Buffer", name := "addName", desc := "(J)V" } : MethodName) ({ cls := "EchoFair$Buffer", name := "addName", desc := "(J)V" } : MethodName)) ∈ ALL := all_t4 (i := 129) rfl rfl
theorem wd_850 : (Cond.code ({ cls := "EchoFair$Buffer", name := "addName", desc := "(J)V" } : MethodName) prog_2_method_4_code (5 : Nat) (Option.none : Option ClassFile.FieldType)) ∈ ALL := all_t4 (i := 130) rfl rfl
theorem wd_851 : (Cond.methodLink "EchoFair$Buffer" (25 : Nat) ({ cls := "EchoFair$Buffer", name := "add", desc := "(I)V" } : MethodName)) ∈ ALL := all_t4 (i := 131) rfl rfl
theorem wd_853 : (Cond.instanceMethod ({ cls := "EchoFair", name := "outputByte", desc := "(I)I" } : MethodName)) ∈ ALL := all_t4 (i := 133) rfl rfl
theorem wd_854 : (Cond.selects "EchoFair" ({ cls := "EchoFair", name := "outputByte", desc := "(I)I" } : MethodName) ({ cls := "EchoFair", name := "outputByte", desc := "(I)I" } : MethodName)) ∈ ALL := all_t4 (i := 134) rfl rfl
theorem wd_855 : (Cond.code ({ cls := "EchoFair", name := "outputByte", desc := "(I)I" } : MethodName) prog_1_method_63_code (2 : Nat) (Option.some ClassFile.FieldType.int)) ∈ ALL := all_t4 (i := 135) rfl rfl
theorem wd_857 : (Cond.static ({ cls := "EchoFairLaw", name := "append", desc := "(LEchoFair;IIIII[J)I" } : MethodName)) ∈ ALL := all_t4 (i := 137) rfl rfl
theorem wd_858 : (Cond.codeWith ({ cls := "EchoFairLaw", name := "append", desc := "(LEchoFair;IIIII[J)I" } : MethodName) method_3_code (8 : Nat) (Option.some ClassFile.FieldType.int) [((0 : Nat), (16 : Nat), (19 : Nat), (13 : Nat))]) ∈ ALL := all_t4 (i := 138) rfl rfl
theorem wd_859 : (Cond.classLink "EchoFairLaw" (13 : Nat) "java/lang/IllegalStateException") ∈ ALL := all_t4 (i := 139) rfl rfl
theorem wd_860 : (Cond.methodLink "EchoFairLaw" (7 : Nat) ({ cls := "EchoFair", name := "append", desc := "(IIIII)I" } : MethodName)) ∈ ALL := all_t4 (i := 140) rfl rfl
theorem wd_861 : (Cond.instanceMethod ({ cls := "EchoFair", name := "append", desc := "(IIIII)I" } : MethodName)) ∈ ALL := all_t4 (i := 141) rfl rfl
theorem wd_862 : (Cond.selects "EchoFair" ({ cls := "EchoFair", name := "append", desc := "(IIIII)I" } : MethodName) ({ cls := "EchoFair", name := "append", desc := "(IIIII)I" } : MethodName)) ∈ ALL := all_t4 (i := 142) rfl rfl
theorem wd_863 : (Cond.code ({ cls := "EchoFair", name := "append", desc := "(IIIII)I" } : MethodName) prog_1_method_2_code (6 : Nat) (Option.some ClassFile.FieldType.int)) ∈ ALL := all_t4 (i := 143) rfl rfl
theorem wd_864 : (Cond.classLink "EchoFair" (113 : Nat) "java/lang/IllegalStateException") ∈ ALL := all_t4 (i := 144) rfl rfl
theorem wd_906 : (Cond.methodLink "EchoFair" (117 : Nat) ({ cls := "java/lang/IllegalStateException", name := "<init>", desc := "(Ljava/lang/String;)V" } : MethodName)) ∈ ALL := all_t4 (i := 186) rfl rfl
theorem wd_931 : (Cond.methodLink "EchoFair" (120 : Nat) ({ cls := "EchoFair$Buffer", name := "addInt", desc := "(I)V" } : MethodName)) ∈ ALL := all_t4 (i := 211) rfl rfl
theorem wd_932 : (Cond.instanceMethod ({ cls := "EchoFair$Buffer", name := "addInt", desc := "(I)V" } : MethodName)) ∈ ALL := all_t4 (i := 212) rfl rfl
theorem wd_933 : (Cond.selects "EchoFair$Buffer" ({ cls := "EchoFair$Buffer", name := "addInt", desc := "(I)V" } : MethodName) ({ cls := "EchoFair$Buffer", name := "addInt", desc := "(I)V" } : MethodName)) ∈ ALL := all_t4 (i := 213) rfl rfl
theorem wd_934 : (Cond.code ({ cls := "EchoFair$Buffer", name := "addInt", desc := "(I)V" } : MethodName) prog_2_method_3_code (2 : Nat) (Option.none : Option ClassFile.FieldType)) ∈ ALL := all_t4 (i := 214) rfl rfl
theorem wd_936 : (Cond.static ({ cls := "EchoFairLaw", name := "truncate", desc := "(LEchoFair;I[J)I" } : MethodName)) ∈ ALL := all_t4 (i := 216) rfl rfl
theorem wd_937 : (Cond.codeWith ({ cls := "EchoFairLaw", name := "truncate", desc := "(LEchoFair;I[J)I" } : MethodName) method_4_code (4 : Nat) (Option.some ClassFile.FieldType.int) [((0 : Nat), (9 : Nat), (12 : Nat), (19 : Nat))]) ∈ ALL := all_t4 (i := 217) rfl rfl
theorem wd_938 : (Cond.classLink "EchoFairLaw" (19 : Nat) "java/lang/IllegalArgumentException") ∈ ALL := all_t4 (i := 218) rfl rfl
theorem wd_939 : (Cond.methodLink "EchoFairLaw" (15 : Nat) ({ cls := "EchoFair", name := "truncate", desc := "(I)I" } : MethodName)) ∈ ALL := all_t4 (i := 219) rfl rfl
theorem wd_940 : (Cond.instanceMethod ({ cls := "EchoFair", name := "truncate", desc := "(I)I" } : MethodName)) ∈ ALL := all_t4 (i := 220) rfl rfl
theorem wd_941 : (Cond.selects "EchoFair" ({ cls := "EchoFair", name := "truncate", desc := "(I)I" } : MethodName) ({ cls := "EchoFair", name := "truncate", desc := "(I)I" } : MethodName)) ∈ ALL := all_t4 (i := 221) rfl rfl
theorem wd_942 : (Cond.code ({ cls := "EchoFair", name := "truncate", desc := "(I)I" } : MethodName) prog_1_method_3_code (2 : Nat) (Option.some ClassFile.FieldType.int)) ∈ ALL := all_t4 (i := 222) rfl rfl
theorem wd_943 : (Cond.classLink "EchoFair" (123 : Nat) "java/lang/IllegalArgumentException") ∈ ALL := all_t4 (i := 223) rfl rfl
theorem wd_953 : (Cond.methodLink "EchoFair" (127 : Nat) ({ cls := "java/lang/IllegalArgumentException", name := "<init>", desc := "(Ljava/lang/String;)V" } : MethodName)) ∈ ALL := all_t4 (i := 233) rfl rfl
theorem wd_960 : (Cond.static ({ cls := "EchoFairLaw", name := "load", desc := "(LEchoFair;[J)I" } : MethodName)) ∈ ALL := all_t5 (i := 0) rfl rfl
theorem wd_961 : (Cond.codeWith ({ cls := "EchoFairLaw", name := "load", desc := "(LEchoFair;[J)I" } : MethodName) method_5_code (3 : Nat) (Option.some ClassFile.FieldType.int) [((0 : Nat), (8 : Nat), (11 : Nat), (19 : Nat))]) ∈ ALL := all_t5 (i := 1) rfl rfl
theorem wd_962 : (Cond.methodLink "EchoFairLaw" (21 : Nat) ({ cls := "EchoFair", name := "load", desc := "()I" } : MethodName)) ∈ ALL := all_t5 (i := 2) rfl rfl
theorem wd_963 : (Cond.instanceMethod ({ cls := "EchoFair", name := "load", desc := "()I" } : MethodName)) ∈ ALL := all_t5 (i := 3) rfl rfl
theorem wd_964 : (Cond.selects "EchoFair" ({ cls := "EchoFair", name := "load", desc := "()I" } : MethodName) ({ cls := "EchoFair", name := "load", desc := "()I" } : MethodName)) ∈ ALL := all_t5 (i := 4) rfl rfl
theorem wd_965 : (Cond.code ({ cls := "EchoFair", name := "load", desc := "()I" } : MethodName) prog_1_method_4_code (2 : Nat) (Option.some ClassFile.FieldType.int)) ∈ ALL := all_t5 (i := 5) rfl rfl
theorem wd_966 : (Cond.methodLink "EchoFair" (128 : Nat) ({ cls := "EchoFair", name := "noteErrors", desc := "()V" } : MethodName)) ∈ ALL := all_t5 (i := 6) rfl rfl
theorem wd_968 : (Cond.instanceMethod ({ cls := "EchoFair", name := "noteErrors", desc := "()V" } : MethodName)) ∈ ALL := all_t5 (i := 8) rfl rfl
theorem wd_969 : (Cond.code ({ cls := "EchoFair", name := "noteErrors", desc := "()V" } : MethodName) prog_1_method_70_code (1 : Nat) (Option.none : Option ClassFile.FieldType)) ∈ ALL := all_t5 (i := 9) rfl rfl
theorem wd_972 : (Cond.static ({ cls := "EchoFairLaw", name := "executeCommands", desc := "(LEchoFair;[J)I" } : MethodName)) ∈ ALL := all_t5 (i := 12) rfl rfl
theorem wd_973 : (Cond.codeWith ({ cls := "EchoFairLaw", name := "executeCommands", desc := "(LEchoFair;[J)I" } : MethodName) method_6_code (3 : Nat) (Option.some ClassFile.FieldType.int) [((0 : Nat), (8 : Nat), (11 : Nat), (19 : Nat))]) ∈ ALL := all_t5 (i := 13) rfl rfl
theorem wd_974 : (Cond.methodLink "EchoFairLaw" (25 : Nat) ({ cls := "EchoFair", name := "executeCommands", desc := "()I" } : MethodName)) ∈ ALL := all_t5 (i := 14) rfl rfl
theorem wd_975 : (Cond.instanceMethod ({ cls := "EchoFair", name := "executeCommands", desc := "()I" } : MethodName)) ∈ ALL := all_t5 (i := 15) rfl rfl
theorem wd_976 : (Cond.selects "EchoFair" ({ cls := "EchoFair", name := "executeCommands", desc := "()I" } : MethodName) ({ cls := "EchoFair", name := "executeCommands", desc := "()I" } : MethodName)) ∈ ALL := all_t5 (i := 16) rfl rfl
theorem wd_977 : (Cond.code ({ cls := "EchoFair", name := "executeCommands", desc := "()I" } : MethodName) prog_1_method_5_code (3 : Nat) (Option.some ClassFile.FieldType.int)) ∈ ALL := all_t5 (i := 17) rfl rfl
theorem wd_978 : (Cond.methodLink "EchoFair" (136 : Nat) ({ cls := "EchoFair$Commands", name := "parse", desc := "(LEchoFair$World;)Z" } : MethodName)) ∈ ALL := all_t5 (i := 18) rfl rfl
theorem wd_979 : (Cond.instanceMethod ({ cls := "EchoFair$Commands", name := "parse", desc := "(LEchoFair$World;)Z" } : MethodName)) ∈ ALL := all_t5 (i := 19) rfl rfl
theorem wd_980 : (Cond.selects "EchoFair$Commands" ({ cls := "EchoFair$Commands", name := "parse", desc := "(LEchoFair$World;)Z" } : MethodName) ({ cls := "EchoFair$Commands", name := "parse", desc := "(LEchoFair$World;)Z" } : MethodName)) ∈ ALL := all_t5 (i := 20) rfl rfl
theorem wd_981 : (Cond.code ({ cls := "EchoFair$Commands", name := "parse", desc := "(LEchoFair$World;)Z" } : MethodName) prog_3_method_2_code (4 : Nat) (Option.some ClassFile.FieldType.boolean)) ∈ ALL := all_t5 (i := 21) rfl rfl
theorem wd_982 : (Cond.methodLink "EchoFair$Commands" (25 : Nat) ({ cls := "EchoFair$Tokens", name := "begin", desc := "()V" } : MethodName)) ∈ ALL := all_t5 (i := 22) rfl rfl
theorem wd_983 : (Cond.methodLink "EchoFair$Commands" (34 : Nat) ({ cls := "EchoFair$Tokens", name := "next", desc := "()V" } : MethodName)) ∈ ALL := all_t5 (i := 23) rfl rfl
theorem wd_984 : (Cond.methodLink "EchoFair$Commands" (40 : Nat) ({ cls := "EchoFair$Commands", name := "verbRead", desc := "()I" } : MethodName)) ∈ ALL := all_t5 (i := 24) rfl rfl
theorem wd_986 : (Cond.instanceMethod ({ cls := "EchoFair$Commands", name := "verbRead", desc := "()I" } : MethodName)) ∈ ALL := all_t5 (i := 26) rfl rfl
theorem wd_987 : (Cond.code ({ cls := "EchoFair$Commands", name := "verbRead", desc := "()I" } : MethodName) prog_3_method_3_code (1 : Nat) (Option.some ClassFile.FieldType.int)) ∈ ALL := all_t5 (i := 27) rfl rfl
theorem wd_989 : (Cond.methodLink "EchoFair$Commands" (58 : Nat) ({ cls := "EchoFair$Tokens", name := "wordIs", desc := "(Ljava/lang/String;)Z" } : MethodName)) ∈ ALL := all_t5 (i := 29) rfl rfl
theorem wd_996 : (Cond.methodLink "EchoFair$Commands" (44 : Nat) ({ cls := "EchoFair$Tokens", name := "fail", desc := "(I)Z" } : MethodName)) ∈ ALL := all_t5 (i := 36) rfl rfl
theorem wd_997 : (Cond.methodLink "EchoFair$Commands" (48 : Nat) ({ cls := "EchoFair$Commands", name := "takeParameters", desc := "(ILEchoFair$World;)Z" } : MethodName)) ∈ ALL := all_t5 (i := 37) rfl rfl
theorem wd_999 : (Cond.instanceMethod ({ cls := "EchoFair$Commands", name := "takeParameters", desc := "(ILEchoFair$World;)Z" } : MethodName)) ∈ ALL := all_t5 (i := 39) rfl rfl
theorem wd_1000 : (Cond.code ({ cls := "EchoFair$Commands", name := "takeParameters", desc := "(ILEchoFair$World;)Z" } : MethodName) prog_3_method_4_code (4 : Nat) (Option.some ClassFile.FieldType.boolean)) ∈ ALL := all_t5 (i := 40) rfl rfl
theorem wd_1001 : (Cond.methodLink "EchoFair$Commands" (74 : Nat) ({ cls := "EchoFair$Tokens", name := "takeNumber", desc := "(II)Z" } : MethodName)) ∈ ALL := all_t5 (i := 41) rfl rfl
theorem wd_1002 : (Cond.methodLink "EchoFair$Commands" (81 : Nat) ({ cls := "EchoFair$Tokens", name := "takeEcho", desc := "(LEchoFair$World;)Z" } : MethodName)) ∈ ALL := all_t5 (i := 42) rfl rfl
theorem wd_1003 : (Cond.methodLink "EchoFair$Commands" (85 : Nat) ({ cls := "EchoFair$Commands", name := "takeValleyAndMore", desc := "(ILEchoFair$World;)Z" } : MethodName)) ∈ ALL := all_t5 (i := 43) rfl rfl
theorem wd_1005 : (Cond.instanceMethod ({ cls := "EchoFair$Commands", name := "takeValleyAndMore", desc := "(ILEchoFair$World;)Z" } : MethodName)) ∈ ALL := all_t5 (i := 45) rfl rfl
theorem wd_1006 : (Cond.code ({ cls := "EchoFair$Commands", name := "takeValleyAndMore", desc := "(ILEchoFair$World;)Z" } : MethodName) prog_3_method_5_code (4 : Nat) (Option.some ClassFile.FieldType.boolean)) ∈ ALL := all_t5 (i := 46) rfl rfl
theorem wd_1007 : (Cond.methodLink "EchoFair$Commands" (88 : Nat) ({ cls := "EchoFair$Tokens", name := "takeValley", desc := "(LEchoFair$World;)Z" } : MethodName)) ∈ ALL := all_t5 (i := 47) rfl rfl
theorem wd_1008 : (Cond.methodLink "EchoFair$Commands" (52 : Nat) ({ cls := "EchoFair$Tokens", name := "takeSemicolon", desc := "()Z" } : MethodName)) ∈ ALL := all_t5 (i := 48) rfl rfl
theorem wd_1010 : (Cond.methodLink "EchoFair" (148 : Nat) ({ cls := "EchoFair", name := "perform", desc := "(I)Z" } : MethodName)) ∈ ALL := all_t5 (i := 50) rfl rfl
theorem wd_1012 : (Cond.instanceMethod ({ cls := "EchoFair", name := "perform", desc := "(I)Z" } : MethodName)) ∈ ALL := all_t5 (i := 52) rfl rfl
theorem wd_1013 : (Cond.code ({ cls := "EchoFair", name := "perform", desc := "(I)Z" } : MethodName) prog_1_method_73_code (4 : Nat) (Option.some ClassFile.FieldType.boolean)) ∈ ALL := all_t5 (i := 53) rfl rfl
theorem wd_1014 : (Cond.methodLink "EchoFair" (286 : Nat) ({ cls := "EchoFair", name := "letDaysPass", desc := "(LEchoFair$World;I)I" } : MethodName)) ∈ ALL := all_t5 (i := 54) rfl rfl
theorem wd_1016 : (Cond.instanceMethod ({ cls := "EchoFair", name := "letDaysPass", desc := "(LEchoFair$World;I)I" } : MethodName)) ∈ ALL := all_t5 (i := 56) rfl rfl
theorem wd_1017 : (Cond.code ({ cls := "EchoFair", name := "letDaysPass", desc := "(LEchoFair$World;I)I" } : MethodName) prog_1_method_72_code (5 : Nat) (Option.some ClassFile.FieldType.int)) ∈ ALL := all_t5 (i := 57) rfl rfl
theorem wd_1018 : (Cond.methodLink "EchoFair" (398 : Nat) ({ cls := "EchoFair$Season", name := "startsOn", desc := "(I)Z" } : MethodName)) ∈ ALL := all_t5 (i := 58) rfl rfl
theorem wd_1019 : (Cond.instanceMethod ({ cls := "EchoFair$Season", name := "startsOn", desc := "(I)Z" } : MethodName)) ∈ ALL := all_t5 (i := 59) rfl rfl
theorem wd_1020 : (Cond.selects "EchoFair$Season" ({ cls := "EchoFair$Season", name := "startsOn", desc := "(I)Z" } : MethodName) ({ cls := "EchoFair$Season", name := "startsOn", desc := "(I)Z" } : MethodName)) ∈ ALL := all_t5 (i := 60) rfl rfl
theorem wd_1021 : (Cond.code ({ cls := "EchoFair$Season", name := "startsOn", desc := "(I)Z" } : MethodName) prog_8_method_3_code (2 : Nat) (Option.some ClassFile.FieldType.boolean)) ∈ ALL := all_t5 (i := 61) rfl rfl
theorem wd_1022 : (Cond.methodLink "EchoFair" (401 : Nat) ({ cls := "EchoFair$World", name := "endSeason", desc := "()V" } : MethodName)) ∈ ALL := all_t5 (i := 62) rfl rfl
theorem wd_1023 : (Cond.instanceMethod ({ cls := "EchoFair$World", name := "endSeason", desc := "()V" } : MethodName)) ∈ ALL := all_t5 (i := 63) rfl rfl
theorem wd_1024 : (Cond.selects "EchoFair$World" ({ cls := "EchoFair$World", name := "endSeason", desc := "()V" } : MethodName) ({ cls := "EchoFair$World", name := "endSeason", desc := "()V" } : MethodName)) ∈ ALL := all_t5 (i := 64) rfl rfl
theorem wd_1025 : (Cond.code ({ cls := "EchoFair$World", name := "endSeason", desc := "()V" } : MethodName) prog_11_method_20_code (2 : Nat) (Option.none : Option ClassFile.FieldType)) ∈ ALL := all_t5 (i := 65) rfl rfl
theorem wd_1026 : (Cond.methodLink "EchoFair$World" (139 : Nat) ({ cls := "EchoFair$World", name := "endContract", desc := "(I)V" } : MethodName)) ∈ ALL := all_t5 (i := 66) rfl rfl
theorem wd_1027 : (Cond.instanceMethod ({ cls := "EchoFair$World", name := "endContract", desc := "(I)V" } : MethodName)) ∈ ALL := all_t5 (i := 67) rfl rfl
theorem wd_1028 : (Cond.selects "EchoFair$World" ({ cls := "EchoFair$World", name := "endContract", desc := "(I)V" } : MethodName) ({ cls := "EchoFair$World", name := "endContract", desc := "(I)V" } : MethodName)) ∈ ALL := all_t5 (i := 68) rfl rfl
theorem wd_1029 : (Cond.code ({ cls := "EchoFair$World", name := "endContract", desc := "(I)V" } : MethodName) prog_11_method_19_code (3 : Nat) (Option.none : Option ClassFile.FieldType)) ∈ ALL := all_t5 (i := 69) rfl rfl
theorem wd_1030 : (Cond.methodLink "EchoFair$World" (133 : Nat) ({ cls := "EchoFair$Valley", name := "release", desc := "(I)V" } : MethodName)) ∈ ALL := all_t5 (i := 70) rfl rfl
theorem wd_1031 : (Cond.instanceMethod ({ cls := "EchoFair$Valley", name := "release", desc := "(I)V" } : MethodName)) ∈ ALL := all_t5 (i := 71) rfl rfl
theorem wd_1032 : (Cond.selects "EchoFair$Valley" ({ cls := "EchoFair$Valley", name := "release", desc := "(I)V" } : MethodName) ({ cls := "EchoFair$Valley", name := "release", desc := "(I)V" } : MethodName)) ∈ ALL := all_t5 (i := 72) rfl rfl
theorem wd_1033 : (Cond.code ({ cls := "EchoFair$Valley", name := "release", desc := "(I)V" } : MethodName) prog_10_method_9_code (4 : Nat) (Option.none : Option ClassFile.FieldType)) ∈ ALL := all_t5 (i := 73) rfl rfl
theorem wd_1034 : (Cond.methodLink "EchoFair" (404 : Nat) ({ cls := "EchoFair$World", name := "work", desc := "()V" } : MethodName)) ∈ ALL := all_t5 (i := 74) rfl rfl
theorem wd_1035 : (Cond.instanceMethod ({ cls := "EchoFair$World", name := "work", desc := "()V" } : MethodName)) ∈ ALL := all_t5 (i := 75) rfl rfl
theorem wd_1036 : (Cond.selects "EchoFair$World" ({ cls := "EchoFair$World", name := "work", desc := "()V" } : MethodName) ({ cls := "EchoFair$World", name := "work", desc := "()V" } : MethodName)) ∈ ALL := all_t5 (i := 76) rfl rfl
theorem wd_1037 : (Cond.code ({ cls := "EchoFair$World", name := "work", desc := "()V" } : MethodName) prog_11_method_21_code (2 : Nat) (Option.none : Option ClassFile.FieldType)) ∈ ALL := all_t5 (i := 77) rfl rfl
theorem wd_1038 : (Cond.methodLink "EchoFair$World" (145 : Nat) ({ cls := "EchoFair$World", name := "hearReplies", desc := "(LEchoFair$Valley;)V" } : MethodName)) ∈ ALL := all_t5 (i := 78) rfl rfl
theorem wd_1040 : (Cond.instanceMethod ({ cls := "EchoFair$World", name := "hearReplies", desc := "(LEchoFair$Valley;)V" } : MethodName)) ∈ ALL := all_t5 (i := 80) rfl rfl
theorem wd_1041 : (Cond.code ({ cls := "EchoFair$World", name := "hearReplies", desc := "(LEchoFair$Valley;)V" } : MethodName) prog_11_method_22_code (5 : Nat) (Option.none : Option ClassFile.FieldType)) ∈ ALL := all_t5 (i := 81) rfl rfl
theorem wd_1042 : (Cond.methodLink "EchoFair$World" (148 : Nat) ({ cls := "EchoFair$World", name := "payStaff", desc := "(LEchoFair$Valley;)V" } : MethodName)) ∈ ALL := all_t5 (i := 82) rfl rfl
theorem wd_1044 : (Cond.instanceMethod ({ cls := "EchoFair$World", name := "payStaff", desc := "(LEchoFair$Valley;)V" } : MethodName)) ∈ ALL := all_t5 (i := 84) rfl rfl
theorem wd_1045 : (Cond.code ({ cls := "EchoFair$World", name := "payStaff", desc := "(LEchoFair$Valley;)V" } : MethodName) prog_11_method_23_code (5 : Nat) (Option.none : Option ClassFile.FieldType)) ∈ ALL := all_t5 (i := 85) rfl rfl
theorem wd_1046 : (Cond.methodLink "EchoFair" (164 : Nat) ({ cls := "EchoFair$Season", name := "fogOn", desc := "(I)I" } : MethodName)) ∈ ALL := all_t5 (i := 86) rfl rfl
theorem wd_1047 : (Cond.instanceMethod ({ cls := "EchoFair$Season", name := "fogOn", desc := "(I)I" } : MethodName)) ∈ ALL := all_t5 (i := 87) rfl rfl
theorem wd_1048 : (Cond.selects "EchoFair$Season" ({ cls := "EchoFair$Season", name := "fogOn", desc := "(I)I" } : MethodName) ({ cls := "EchoFair$Season", name := "fogOn", desc := "(I)I" } : MethodName)) ∈ ALL := all_t5 (i := 88) rfl rfl
theorem wd_1049 : (Cond.code ({ cls := "EchoFair$Season", name := "fogOn", desc := "(I)I" } : MethodName) prog_8_method_4_code (2 : Nat) (Option.some ClassFile.FieldType.int)) ∈ ALL := all_t5 (i := 89) rfl rfl
theorem wd_1050 : (Cond.methodLink "EchoFair$Season" (28 : Nat) ({ cls := "java/lang/Math", name := "floorMod", desc := "(II)I" } : MethodName)) ∈ ALL := all_t5 (i := 90) rfl rfl
theorem wd_1051 : (Cond.static ({ cls := "java/lang/Math", name := "floorMod", desc := "(II)I" } : MethodName)) ∈ ALL := all_t5 (i := 91) rfl rfl
theorem wd_1052 : (Cond.code ({ cls := "java/lang/Math", name := "floorMod", desc := "(II)I" } : MethodName) prog_18_method_50_code (3 : Nat) (Option.some ClassFile.FieldType.int)) ∈ ALL := all_t5 (i := 92) rfl rfl
theorem wd_1053 : (Cond.methodLink "EchoFair" (407 : Nat) ({ cls := "EchoFair$World", name := "desert", desc := "(I)I" } : MethodName)) ∈ ALL := all_t5 (i := 93) rfl rfl
theorem wd_1054 : (Cond.instanceMethod ({ cls := "EchoFair$World", name := "desert", desc := "(I)I" } : MethodName)) ∈ ALL := all_t5 (i := 94) rfl rfl
theorem wd_1055 : (Cond.selects "EchoFair$World" ({ cls := "EchoFair$World", name := "desert", desc := "(I)I" } : MethodName) ({ cls := "EchoFair$World", name := "desert", desc := "(I)I" } : MethodName)) ∈ ALL := all_t5 (i := 95) rfl rfl
theorem wd_1056 : (Cond.code ({ cls := "EchoFair$World", name := "desert", desc := "(I)I" } : MethodName) prog_11_method_24_code (5 : Nat) (Option.some ClassFile.FieldType.int)) ∈ ALL := all_t5 (i := 96) rfl rfl
theorem wd_1057 : (Cond.methodLink "EchoFair$World" (166 : Nat) ({ cls := "EchoFair$Echo", name := "leavesIn", desc := "(I)Z" } : MethodName)) ∈ ALL := all_t5 (i := 97) rfl rfl
theorem wd_1058 : (Cond.instanceMethod ({ cls := "EchoFair$Echo", name := "leavesIn", desc := "(I)Z" } : MethodName)) ∈ ALL := all_t5 (i := 98) rfl rfl
theorem wd_1059 : (Cond.selects "EchoFair$Echo" ({ cls := "EchoFair$Echo", name := "leavesIn", desc := "(I)Z" } : MethodName) ({ cls := "EchoFair$Echo", name := "leavesIn", desc := "(I)Z" } : MethodName)) ∈ ALL := all_t5 (i := 99) rfl rfl
theorem wd_1060 : (Cond.code ({ cls := "EchoFair$Echo", name := "leavesIn", desc := "(I)Z" } : MethodName) prog_5_method_6_code (2 : Nat) (Option.some ClassFile.FieldType.boolean)) ∈ ALL := all_t5 (i := 100) rfl rfl
theorem wd_1061 : (Cond.methodLink "EchoFair" (293 : Nat) ({ cls := "EchoFair$World", name := "canTest", desc := "(II)Z" } : MethodName)) ∈ ALL := all_t5 (i := 101) rfl rfl
theorem wd_1062 : (Cond.instanceMethod ({ cls := "EchoFair$World", name := "canTest", desc := "(II)Z" } : MethodName)) ∈ ALL := all_t5 (i := 102) rfl rfl
theorem wd_1063 : (Cond.selects "EchoFair$World" ({ cls := "EchoFair$World", name := "canTest", desc := "(II)Z" } : MethodName) ({ cls := "EchoFair$World", name := "canTest", desc := "(II)Z" } : MethodName)) ∈ ALL := all_t5 (i := 103) rfl rfl
theorem wd_1064 : (Cond.code ({ cls := "EchoFair$World", name := "canTest", desc := "(II)Z" } : MethodName) prog_11_method_17_code (3 : Nat) (Option.some ClassFile.FieldType.boolean)) ∈ ALL := all_t5 (i := 104) rfl rfl
theorem wd_1065 : (Cond.methodLink "EchoFair" (339 : Nat) ({ cls := "EchoFair$Valley", name := "noteTest", desc := "(I)V" } : MethodName)) ∈ ALL := all_t5 (i := 105) rfl rfl
theorem wd_1066 : (Cond.methodLink "EchoFair" (344 : Nat) ({ cls := "EchoFair$World", name := "endContract", desc := "(I)V" } : MethodName)) ∈ ALL := all_t5 (i := 106) rfl rfl
theorem wd_1067 : (Cond.methodLink "EchoFair" (351 : Nat) ({ cls := "EchoFair$World", name := "putMoney", desc := "(II)V" } : MethodName)) ∈ ALL := all_t5 (i := 107) rfl rfl
theorem wd_1068 : (Cond.instanceMethod ({ cls := "EchoFair$World", name := "putMoney", desc := "(II)V" } : MethodName)) ∈ ALL := all_t5 (i := 108) rfl rfl
theorem wd_1069 : (Cond.selects "EchoFair$World" ({ cls := "EchoFair$World", name := "putMoney", desc := "(II)V" } : MethodName) ({ cls := "EchoFair$World", name := "putMoney", desc := "(II)V" } : MethodName)) ∈ ALL := all_t5 (i := 109) rfl rfl
theorem wd_1070 : (Cond.code ({ cls := "EchoFair$World", name := "putMoney", desc := "(II)V" } : MethodName) prog_11_method_25_code (3 : Nat) (Option.none : Option ClassFile.FieldType)) ∈ ALL := all_t5 (i := 110) rfl rfl
theorem wd_1071 : (Cond.methodLink "EchoFair" (354 : Nat) ({ cls := "EchoFair$Echo", name := "canLearn", desc := "()Z" } : MethodName)) ∈ ALL := all_t5 (i := 111) rfl rfl
theorem wd_1072 : (Cond.instanceMethod ({ cls := "EchoFair$Echo", name := "canLearn", desc := "()Z" } : MethodName)) ∈ ALL := all_t5 (i := 112) rfl rfl
theorem wd_1073 : (Cond.selects "EchoFair$Echo" ({ cls := "EchoFair$Echo", name := "canLearn", desc := "()Z" } : MethodName) ({ cls := "EchoFair$Echo", name := "canLearn", desc := "()Z" } : MethodName)) ∈ ALL := all_t5 (i := 113) rfl rfl
theorem wd_1074 : (Cond.code ({ cls := "EchoFair$Echo", name := "canLearn", desc := "()Z" } : MethodName) prog_5_method_5_code (1 : Nat) (Option.some ClassFile.FieldType.boolean)) ∈ ALL := all_t5 (i := 114) rfl rfl
theorem wd_1075 : (Cond.methodLink "EchoFair$Echo" (40 : Nat) ({ cls := "EchoFair$Echo", name := "lessonPrice", desc := "()I" } : MethodName)) ∈ ALL := all_t5 (i := 115) rfl rfl
theorem wd_1076 : (Cond.instanceMethod ({ cls := "EchoFair$Echo", name := "lessonPrice", desc := "()I" } : MethodName)) ∈ ALL := all_t5 (i := 116) rfl rfl
theorem wd_1077 : (Cond.selects "EchoFair$Echo" ({ cls := "EchoFair$Echo", name := "lessonPrice", desc := "()I" } : MethodName) ({ cls := "EchoFair$Echo", name := "lessonPrice", desc := "()I" } : MethodName)) ∈ ALL := all_t5 (i := 117) rfl rfl
theorem wd_1078 : (Cond.code ({ cls := "EchoFair$Echo", name := "lessonPrice", desc := "()I" } : MethodName) prog_5_method_4_code (1 : Nat) (Option.some ClassFile.FieldType.int)) ∈ ALL := all_t5 (i := 118) rfl rfl
theorem wd_1079 : (Cond.methodLink "EchoFair" (359 : Nat) ({ cls := "EchoFair$World", name := "teach", desc := "(I)V" } : MethodName)) ∈ ALL := all_t5 (i := 119) rfl rfl
theorem wd_1080 : (Cond.instanceMethod ({ cls := "EchoFair$World", name := "teach", desc := "(I)V" } : MethodName)) ∈ ALL := all_t5 (i := 120) rfl rfl
theorem wd_1081 : (Cond.selects "EchoFair$World" ({ cls := "EchoFair$World", name := "teach", desc := "(I)V" } : MethodName) ({ cls := "EchoFair$World", name := "teach", desc := "(I)V" } : MethodName)) ∈ ALL := all_t5 (i := 121) rfl rfl
theorem wd_1082 : (Cond.code ({ cls := "EchoFair$World", name := "teach", desc := "(I)V" } : MethodName) prog_11_method_26_code (3 : Nat) (Option.none : Option ClassFile.FieldType)) ∈ ALL := all_t5 (i := 122) rfl rfl
theorem wd_1083 : (Cond.methodLink "EchoFair$World" (172 : Nat) ({ cls := "EchoFair$Echo", name := "lessonPrice", desc := "()I" } : MethodName)) ∈ ALL := all_t5 (i := 123) rfl rfl
theorem wd_1085 : (Cond.static ({ cls := "EchoFairLaw", name := "fogOf", desc := "(LEchoFair;I[J)I" } : MethodName)) ∈ ALL := all_t5 (i := 125) rfl rfl
theorem wd_1086 : (Cond.codeWith ({ cls := "EchoFairLaw", name := "fogOf", desc := "(LEchoFair;I[J)I" } : MethodName) method_7_code (4 : Nat) (Option.some ClassFile.FieldType.int) [((0 : Nat), (9 : Nat), (12 : Nat), (19 : Nat))]) ∈ ALL := all_t5 (i := 126) rfl rfl
theorem wd_1087 : (Cond.methodLink "EchoFairLaw" (28 : Nat) ({ cls := "EchoFair", name := "fogOf", desc := "(I)I" } : MethodName)) ∈ ALL := all_t5 (i := 127) rfl rfl
theorem wd_1088 : (Cond.instanceMethod ({ cls := "EchoFair", name := "fogOf", desc := "(I)I" } : MethodName)) ∈ ALL := all_t5 (i := 128) rfl rfl
theorem wd_1089 : (Cond.selects "EchoFair" ({ cls := "EchoFair", name := "fogOf", desc := "(I)I" } : MethodName) ({ cls := "EchoFair", name := "fogOf", desc := "(I)I" } : MethodName)) ∈ ALL := all_t5 (i := 129) rfl rfl
theorem wd_1090 : (Cond.code ({ cls := "EchoFair", name := "fogOf", desc := "(I)I" } : MethodName) prog_1_method_12_code (2 : Nat) (Option.some ClassFile.FieldType.int)) ∈ ALL := all_t5 (i := 130) rfl rfl
theorem wd_1093 : (Cond.static ({ cls := "EchoFairLaw", name := "delayOf", desc := "(LEchoFair;I[J)I" } : MethodName)) ∈ ALL := all_t5 (i := 133) rfl rfl
theorem wd_1094 : (Cond.codeWith ({ cls := "EchoFairLaw", name := "delayOf", desc := "(LEchoFair;I[J)I" } : MethodName) method_8_code (4 : Nat) (Option.some ClassFile.FieldType.int) [((0 : Nat), (9 : Nat), (12 : Nat), (34 : Nat))]) ∈ ALL := all_t5 (i := 134) rfl rfl
theorem wd_1095 : (Cond.classLink "EchoFairLaw" (34 : Nat) "java/lang/IndexOutOfBoundsException") ∈ ALL := all_t5 (i := 135) rfl rfl
theorem wd_1096 : (Cond.methodLink "EchoFairLaw" (31 : Nat) ({ cls := "EchoFair", name := "delayOf", desc := "(I)I" } : MethodName)) ∈ ALL := all_t5 (i := 136) rfl rfl
theorem wd_1097 : (Cond.instanceMethod ({ cls := "EchoFair", name := "delayOf", desc := "(I)I" } : MethodName)) ∈ ALL := all_t5 (i := 137) rfl rfl
theorem wd_1098 : (Cond.selects "EchoFair" ({ cls := "EchoFair", name := "delayOf", desc := "(I)I" } : MethodName) ({ cls := "EchoFair", name := "delayOf", desc := "(I)I" } : MethodName)) ∈ ALL := all_t5 (i := 138) rfl rfl
theorem wd_1099 : (Cond.code ({ cls := "EchoFair", name := "delayOf", desc := "(I)I" } : MethodName) prog_1_method_15_code (2 : Nat) (Option.some ClassFile.FieldType.int)) ∈ ALL := all_t5 (i := 139) rfl rfl
theorem wd_1100 : (Cond.methodLink "EchoFair" (179 : Nat) ({ cls := "EchoFair", name := "echoAt", desc := "(I)LEchoFair$Echo;" } : MethodName)) ∈ ALL := all_t5 (i := 140) rfl rfl
theorem wd_1102 : (Cond.instanceMethod ({ cls := "EchoFair", name := "echoAt", desc := "(I)LEchoFair$Echo;" } : MethodName)) ∈ ALL := all_t5 (i := 142) rfl rfl
theorem wd_1103 : (Cond.code ({ cls := "EchoFair", name := "echoAt", desc := "(I)LEchoFair$Echo;" } : MethodName) prog_1_method_67_code (2 : Nat) (Option.some (ClassFile.FieldType.object "EchoFair$Echo"))) ∈ ALL := all_t5 (i := 143) rfl rfl
theorem wd_1104 : (Cond.methodLink "EchoFair" (250 : Nat) ({ cls := "EchoFair", name := "requireEcho", desc := "(I)V" } : MethodName)) ∈ ALL := all_t5 (i := 144) rfl rfl
theorem wd_1106 : (Cond.instanceMethod ({ cls := "EchoFair", name := "requireEcho", desc := "(I)V" } : MethodName)) ∈ ALL := all_t5 (i := 146) rfl rfl
theorem wd_1107 : (Cond.code ({ cls := "EchoFair", name := "requireEcho", desc := "(I)V" } : MethodName) prog_1_method_64_code (2 : Nat) (Option.none : Option ClassFile.FieldType)) ∈ ALL := all_t5 (i := 147) rfl rfl
theorem wd_1108 : (Cond.classLink "EchoFair" (382 : Nat) "java/lang/IndexOutOfBoundsException") ∈ ALL := all_t5 (i := 148) rfl rfl
theorem wd_1118 : (Cond.methodLink "EchoFair" (386 : Nat) ({ cls := "java/lang/IndexOutOfBoundsException", name := "<init>", desc := "(Ljava/lang/String;)V" } : MethodName)) ∈ ALL := all_t5 (i := 158) rfl rfl
theorem wd_1125 : (Cond.static ({ cls := "EchoFairLaw", name := "repeatsOf", desc := "(LEchoFair;I[J)I" } : MethodName)) ∈ ALL := all_t5 (i := 165) rfl rfl
theorem wd_1126 : (Cond.codeWith ({ cls := "EchoFairLaw", name := "repeatsOf", desc := "(LEchoFair;I[J)I" } : MethodName) method_9_code (4 : Nat) (Option.some ClassFile.FieldType.int) [((0 : Nat), (9 : Nat), (12 : Nat), (34 : Nat))]) ∈ ALL := all_t5 (i := 166) rfl rfl
theorem wd_1127 : (Cond.methodLink "EchoFairLaw" (36 : Nat) ({ cls := "EchoFair", name := "repeatsOf", desc := "(I)I" } : MethodName)) ∈ ALL := all_t5 (i := 167) rfl rfl
theorem wd_1128 : (Cond.instanceMethod ({ cls := "EchoFair", name := "repeatsOf", desc := "(I)I" } : MethodName)) ∈ ALL := all_t5 (i := 168) rfl rfl
theorem wd_1129 : (Cond.selects "EchoFair" ({ cls := "EchoFair", name := "repeatsOf", desc := "(I)I" } : MethodName) ({ cls := "EchoFair", name := "repeatsOf", desc := "(I)I" } : MethodName)) ∈ ALL := all_t5 (i := 169) rfl rfl
theorem wd_1130 : (Cond.code ({ cls := "EchoFair", name := "repeatsOf", desc := "(I)I" } : MethodName) prog_1_method_16_code (2 : Nat) (Option.some ClassFile.FieldType.int)) ∈ ALL := all_t5 (i := 170) rfl rfl
theorem wd_1132 : (Cond.static ({ cls := "EchoFairLaw", name := "reserveWage", desc := "(LEchoFair;I[J)I" } : MethodName)) ∈ ALL := all_t5 (i := 172) rfl rfl
theorem wd_1133 : (Cond.codeWith ({ cls := "EchoFairLaw", name := "reserveWage", desc := "(LEchoFair;I[J)I" } : MethodName) method_10_code (4 : Nat) (Option.some ClassFile.FieldType.int) [((0 : Nat), (9 : Nat), (12 : Nat), (34 : Nat))]) ∈ ALL := all_t5 (i := 173) rfl rfl
theorem wd_1134 : (Cond.methodLink "EchoFairLaw" (39 : Nat) ({ cls := "EchoFair", name := "reserveWage", desc := "(I)I" } : MethodName)) ∈ ALL := all_t5 (i := 174) rfl rfl
theorem wd_1135 : (Cond.instanceMethod ({ cls := "EchoFair", name := "reserveWage", desc := "(I)I" } : MethodName)) ∈ ALL := all_t5 (i := 175) rfl rfl
theorem wd_1136 : (Cond.selects "EchoFair" ({ cls := "EchoFair", name := "reserveWage", desc := "(I)I" } : MethodName) ({ cls := "EchoFair", name := "reserveWage", desc := "(I)I" } : MethodName)) ∈ ALL := all_t5 (i := 176) rfl rfl
theorem wd_1137 : (Cond.code ({ cls := "EchoFair", name := "reserveWage", desc := "(I)I" } : MethodName) prog_1_method_17_code (2 : Nat) (Option.some ClassFile.FieldType.int)) ∈ ALL := all_t5 (i := 177) rfl rfl
theorem wd_1139 : (Cond.static ({ cls := "EchoFairLaw", name := "resistanceOf", desc := "(LEchoFair;I[J)I" } : MethodName)) ∈ ALL := all_t5 (i := 179) rfl rfl
theorem wd_1140 : (Cond.codeWith ({ cls := "EchoFairLaw", name := "resistanceOf", desc := "(LEchoFair;I[J)I" } : MethodName) method_11_code (4 : Nat) (Option.some ClassFile.FieldType.int) [((0 : Nat), (9 : Nat), (12 : Nat), (34 : Nat))]) ∈ ALL := all_t5 (i := 180) rfl rfl
theorem wd_1141 : (Cond.methodLink "EchoFairLaw" (42 : Nat) ({ cls := "EchoFair", name := "resistanceOf", desc := "(I)I" } : MethodName)) ∈ ALL := all_t5 (i := 181) rfl rfl
theorem wd_1142 : (Cond.instanceMethod ({ cls := "EchoFair", name := "resistanceOf", desc := "(I)I" } : MethodName)) ∈ ALL := all_t5 (i := 182) rfl rfl
theorem wd_1143 : (Cond.selects "EchoFair" ({ cls := "EchoFair", name := "resistanceOf", desc := "(I)I" } : MethodName) ({ cls := "EchoFair", name := "resistanceOf", desc := "(I)I" } : MethodName)) ∈ ALL := all_t5 (i := 183) rfl rfl
theorem wd_1144 : (Cond.code ({ cls := "EchoFair", name := "resistanceOf", desc := "(I)I" } : MethodName) prog_1_method_18_code (2 : Nat) (Option.some ClassFile.FieldType.int)) ∈ ALL := all_t5 (i := 184) rfl rfl
theorem wd_1146 : (Cond.static ({ cls := "EchoFairLaw", name := "savingsOf", desc := "(LEchoFair;I[J)I" } : MethodName)) ∈ ALL := all_t5 (i := 186) rfl rfl
theorem wd_1147 : (Cond.codeWith ({ cls := "EchoFairLaw", name := "savingsOf", desc := "(LEchoFair;I[J)I" } : MethodName) method_12_code (4 : Nat) (Option.some ClassFile.FieldType.int) [((0 : Nat), (9 : Nat), (12 : Nat), (34 : Nat))]) ∈ ALL := all_t5 (i := 187) rfl rfl
theorem wd_1148 : (Cond.methodLink "EchoFairLaw" (45 : Nat) ({ cls := "EchoFair", name := "savingsOf", desc := "(I)I" } : MethodName)) ∈ ALL := all_t5 (i := 188) rfl rfl
theorem wd_1149 : (Cond.instanceMethod ({ cls := "EchoFair", name := "savingsOf", desc := "(I)I" } : MethodName)) ∈ ALL := all_t5 (i := 189) rfl rfl
theorem wd_1150 : (Cond.selects "EchoFair" ({ cls := "EchoFair", name := "savingsOf", desc := "(I)I" } : MethodName) ({ cls := "EchoFair", name := "savingsOf", desc := "(I)I" } : MethodName)) ∈ ALL := all_t5 (i := 190) rfl rfl
theorem wd_1151 : (Cond.code ({ cls := "EchoFair", name := "savingsOf", desc := "(I)I" } : MethodName) prog_1_method_19_code (2 : Nat) (Option.some ClassFile.FieldType.int)) ∈ ALL := all_t5 (i := 191) rfl rfl
theorem wd_1153 : (Cond.static ({ cls := "EchoFairLaw", name := "unpaidDays", desc := "(LEchoFair;I[J)I" } : MethodName)) ∈ ALL := all_t5 (i := 193) rfl rfl
theorem wd_1154 : (Cond.codeWith ({ cls := "EchoFairLaw", name := "unpaidDays", desc := "(LEchoFair;I[J)I" } : MethodName) method_13_code (4 : Nat) (Option.some ClassFile.FieldType.int) [((0 : Nat), (9 : Nat), (12 : Nat), (34 : Nat))]) ∈ ALL := all_t5 (i := 194) rfl rfl
theorem wd_1155 : (Cond.methodLink "EchoFairLaw" (48 : Nat) ({ cls := "EchoFair", name := "unpaidDays", desc := "(I)I" } : MethodName)) ∈ ALL := all_t5 (i := 195) rfl rfl
theorem wd_1156 : (Cond.instanceMethod ({ cls := "EchoFair", name := "unpaidDays", desc := "(I)I" } : MethodName)) ∈ ALL := all_t5 (i := 196) rfl rfl
theorem wd_1157 : (Cond.selects "EchoFair" ({ cls := "EchoFair", name := "unpaidDays", desc := "(I)I" } : MethodName) ({ cls := "EchoFair", name := "unpaidDays", desc := "(I)I" } : MethodName)) ∈ ALL := all_t5 (i := 197) rfl rfl
theorem wd_1158 : (Cond.code ({ cls := "EchoFair", name := "unpaidDays", desc := "(I)I" } : MethodName) prog_1_method_20_code (2 : Nat) (Option.some ClassFile.FieldType.int)) ∈ ALL := all_t5 (i := 198) rfl rfl
theorem wd_1160 : (Cond.static ({ cls := "EchoFairLaw", name := "employerOf", desc := "(LEchoFair;I[J)I" } : MethodName)) ∈ ALL := all_t5 (i := 200) rfl rfl
theorem wd_1161 : (Cond.codeWith ({ cls := "EchoFairLaw", name := "employerOf", desc := "(LEchoFair;I[J)I" } : MethodName) method_14_code (4 : Nat) (Option.some ClassFile.FieldType.int) [((0 : Nat), (9 : Nat), (12 : Nat), (34 : Nat))]) ∈ ALL := all_t5 (i := 201) rfl rfl
theorem wd_1162 : (Cond.methodLink "EchoFairLaw" (51 : Nat) ({ cls := "EchoFair", name := "employerOf", desc := "(I)I" } : MethodName)) ∈ ALL := all_t5 (i := 202) rfl rfl
theorem wd_1163 : (Cond.instanceMethod ({ cls := "EchoFair", name := "employerOf", desc := "(I)I" } : MethodName)) ∈ ALL := all_t5 (i := 203) rfl rfl
theorem wd_1164 : (Cond.selects "EchoFair" ({ cls := "EchoFair", name := "employerOf", desc := "(I)I" } : MethodName) ({ cls := "EchoFair", name := "employerOf", desc := "(I)I" } : MethodName)) ∈ ALL := all_t5 (i := 204) rfl rfl
theorem wd_1165 : (Cond.code ({ cls := "EchoFair", name := "employerOf", desc := "(I)I" } : MethodName) prog_1_method_21_code (2 : Nat) (Option.some ClassFile.FieldType.int)) ∈ ALL := all_t5 (i := 205) rfl rfl
theorem wd_1167 : (Cond.static ({ cls := "EchoFairLaw", name := "widthOf", desc := "(LEchoFair;I[J)I" } : MethodName)) ∈ ALL := all_t5 (i := 207) rfl rfl
theorem wd_1168 : (Cond.codeWith ({ cls := "EchoFairLaw", name := "widthOf", desc := "(LEchoFair;I[J)I" } : MethodName) method_15_code (4 : Nat) (Option.some ClassFile.FieldType.int) [((0 : Nat), (9 : Nat), (12 : Nat), (34 : Nat))]) ∈ ALL := all_t5 (i := 208) rfl rfl
theorem wd_1169 : (Cond.methodLink "EchoFairLaw" (54 : Nat) ({ cls := "EchoFair", name := "widthOf", desc := "(I)I" } : MethodName)) ∈ ALL := all_t5 (i := 209) rfl rfl
theorem wd_1170 : (Cond.instanceMethod ({ cls := "EchoFair", name := "widthOf", desc := "(I)I" } : MethodName)) ∈ ALL := all_t5 (i := 210) rfl rfl
theorem wd_1171 : (Cond.selects "EchoFair" ({ cls := "EchoFair", name := "widthOf", desc := "(I)I" } : MethodName) ({ cls := "EchoFair", name := "widthOf", desc := "(I)I" } : MethodName)) ∈ ALL := all_t5 (i := 211) rfl rfl
theorem wd_1172 : (Cond.code ({ cls := "EchoFair", name := "widthOf", desc := "(I)I" } : MethodName) prog_1_method_22_code (2 : Nat) (Option.some ClassFile.FieldType.int)) ∈ ALL := all_t5 (i := 212) rfl rfl
theorem wd_1173 : (Cond.methodLink "EchoFair" (206 : Nat) ({ cls := "EchoFair", name := "valleyAt", desc := "(I)LEchoFair$Valley;" } : MethodName)) ∈ ALL := all_t5 (i := 213) rfl rfl
theorem wd_1175 : (Cond.instanceMethod ({ cls := "EchoFair", name := "valleyAt", desc := "(I)LEchoFair$Valley;" } : MethodName)) ∈ ALL := all_t5 (i := 215) rfl rfl
theorem wd_1176 : (Cond.code ({ cls := "EchoFair", name := "valleyAt", desc := "(I)LEchoFair$Valley;" } : MethodName) prog_1_method_68_code (2 : Nat) (Option.some (ClassFile.FieldType.object "EchoFair$Valley"))) ∈ ALL := all_t5 (i := 216) rfl rfl
theorem wd_1177 : (Cond.methodLink "EchoFair" (260 : Nat) ({ cls := "EchoFair", name := "requireValley", desc := "(I)V" } : MethodName)) ∈ ALL := all_t5 (i := 217) rfl rfl
theorem wd_1179 : (Cond.instanceMethod ({ cls := "EchoFair", name := "requireValley", desc := "(I)V" } : MethodName)) ∈ ALL := all_t5 (i := 219) rfl rfl
theorem wd_1180 : (Cond.code ({ cls := "EchoFair", name := "requireValley", desc := "(I)V" } : MethodName) prog_1_method_65_code (2 : Nat) (Option.none : Option ClassFile.FieldType)) ∈ ALL := all_t5 (i := 220) rfl rfl
theorem wd_1183 : (Cond.static ({ cls := "EchoFairLaw", name := "postsOf", desc := "(LEchoFair;I[J)I" } : MethodName)) ∈ ALL := all_t5 (i := 223) rfl rfl
theorem wd_1184 : (Cond.codeWith ({ cls := "EchoFairLaw", name := "postsOf", desc := "(LEchoFair;I[J)I" } : MethodName) method_16_code (4 : Nat) (Option.some ClassFile.FieldType.int) [((0 : Nat), (9 : Nat), (12 : Nat), (34 : Nat))]) ∈ ALL := all_t5 (i := 224) rfl rfl
theorem wd_1185 : (Cond.methodLink "EchoFairLaw" (57 : Nat) ({ cls := "EchoFair", name := "postsOf", desc := "(I)I" } : MethodName)) ∈ ALL := all_t5 (i := 225) rfl rfl
theorem wd_1186 : (Cond.instanceMethod ({ cls := "EchoFair", name := "postsOf", desc := "(I)I" } : MethodName)) ∈ ALL := all_t5 (i := 226) rfl rfl
theorem wd_1187 : (Cond.selects "EchoFair" ({ cls := "EchoFair", name := "postsOf", desc := "(I)I" } : MethodName) ({ cls := "EchoFair", name := "postsOf", desc := "(I)I" } : MethodName)) ∈ ALL := all_t5 (i := 227) rfl rfl
theorem wd_1188 : (Cond.code ({ cls := "EchoFair", name := "postsOf", desc := "(I)I" } : MethodName) prog_1_method_23_code (2 : Nat) (Option.some ClassFile.FieldType.int)) ∈ ALL := all_t5 (i := 228) rfl rfl
theorem wd_1190 : (Cond.static ({ cls := "EchoFairLaw", name := "wageOf", desc := "(LEchoFair;I[J)I" } : MethodName)) ∈ ALL := all_t5 (i := 230) rfl rfl
theorem wd_1191 : (Cond.codeWith ({ cls := "EchoFairLaw", name := "wageOf", desc := "(LEchoFair;I[J)I" } : MethodName) method_17_code (4 : Nat) (Option.some ClassFile.FieldType.int) [((0 : Nat), (9 : Nat), (12 : Nat), (34 : Nat))]) ∈ ALL := all_t5 (i := 231) rfl rfl
theorem wd_1192 : (Cond.methodLink "EchoFairLaw" (60 : Nat) ({ cls := "EchoFair", name := "wageOf", desc := "(I)I" } : MethodName)) ∈ ALL := all_t5 (i := 232) rfl rfl
theorem wd_1193 : (Cond.instanceMethod ({ cls := "EchoFair", name := "wageOf", desc := "(I)I" } : MethodName)) ∈ ALL := all_t5 (i := 233) rfl rfl
theorem wd_1194 : (Cond.selects "EchoFair" ({ cls := "EchoFair", name := "wageOf", desc := "(I)I" } : MethodName) ({ cls := "EchoFair", name := "wageOf", desc := "(I)I" } : MethodName)) ∈ ALL := all_t5 (i := 234) rfl rfl
theorem wd_1195 : (Cond.code ({ cls := "EchoFair", name := "wageOf", desc := "(I)I" } : MethodName) prog_1_method_24_code (2 : Nat) (Option.some ClassFile.FieldType.int)) ∈ ALL := all_t5 (i := 235) rfl rfl
theorem wd_1197 : (Cond.static ({ cls := "EchoFairLaw", name := "purseOf", desc := "(LEchoFair;I[J)I" } : MethodName)) ∈ ALL := all_t5 (i := 237) rfl rfl
theorem wd_1198 : (Cond.codeWith ({ cls := "EchoFairLaw", name := "purseOf", desc := "(LEchoFair;I[J)I" } : MethodName) method_18_code (4 : Nat) (Option.some ClassFile.FieldType.int) [((0 : Nat), (9 : Nat), (12 : Nat), (34 : Nat))]) ∈ ALL := all_t5 (i := 238) rfl rfl
theorem wd_1199 : (Cond.methodLink "EchoFairLaw" (63 : Nat) ({ cls := "EchoFair", name := "purseOf", desc := "(I)I" } : MethodName)) ∈ ALL := all_t5 (i := 239) rfl rfl
theorem wd_1200 : (Cond.instanceMethod ({ cls := "EchoFair", name := "purseOf", desc := "(I)I" } : MethodName)) ∈ ALL := all_t6 (i := 0) rfl rfl
theorem wd_1201 : (Cond.selects "EchoFair" ({ cls := "EchoFair", name := "purseOf", desc := "(I)I" } : MethodName) ({ cls := "EchoFair", name := "purseOf", desc := "(I)I" } : MethodName)) ∈ ALL := all_t6 (i := 1) rfl rfl
theorem wd_1202 : (Cond.code ({ cls := "EchoFair", name := "purseOf", desc := "(I)I" } : MethodName) prog_1_method_25_code (2 : Nat) (Option.some ClassFile.FieldType.int)) ∈ ALL := all_t6 (i := 2) rfl rfl
theorem wd_1204 : (Cond.static ({ cls := "EchoFairLaw", name := "staffCount", desc := "(LEchoFair;I[J)I" } : MethodName)) ∈ ALL := all_t6 (i := 4) rfl rfl
theorem wd_1205 : (Cond.codeWith ({ cls := "EchoFairLaw", name := "staffCount", desc := "(LEchoFair;I[J)I" } : MethodName) method_19_code (4 : Nat) (Option.some ClassFile.FieldType.int) [((0 : Nat), (9 : Nat), (12 : Nat), (34 : Nat))]) ∈ ALL := all_t6 (i := 5) rfl rfl
theorem wd_1206 : (Cond.methodLink "EchoFairLaw" (66 : Nat) ({ cls := "EchoFair", name := "staffCount", desc := "(I)I" } : MethodName)) ∈ ALL := all_t6 (i := 6) rfl rfl
theorem wd_1207 : (Cond.instanceMethod ({ cls := "EchoFair", name := "staffCount", desc := "(I)I" } : MethodName)) ∈ ALL := all_t6 (i := 7) rfl rfl
theorem wd_1208 : (Cond.selects "EchoFair" ({ cls := "EchoFair", name := "staffCount", desc := "(I)I" } : MethodName) ({ cls := "EchoFair", name := "staffCount", desc := "(I)I" } : MethodName)) ∈ ALL := all_t6 (i := 8) rfl rfl
theorem wd_1209 : (Cond.code ({ cls := "EchoFair", name := "staffCount", desc := "(I)I" } : MethodName) prog_1_method_26_code (2 : Nat) (Option.some ClassFile.FieldType.int)) ∈ ALL := all_t6 (i := 9) rfl rfl
theorem wd_1211 : (Cond.static ({ cls := "EchoFairLaw", name := "staffMember", desc := "(LEchoFair;II[J)I" } : MethodName)) ∈ ALL := all_t6 (i := 11) rfl rfl
theorem wd_1212 : (Cond.codeWith ({ cls := "EchoFairLaw", name := "staffMember", desc := "(LEchoFair;II[J)I" } : MethodName) method_20_code (5 : Nat) (Option.some ClassFile.FieldType.int) [((0 : Nat), (10 : Nat), (13 : Nat), (34 : Nat))]) ∈ ALL := all_t6 (i := 12) rfl rfl
theorem wd_1213 : (Cond.methodLink "EchoFairLaw" (69 : Nat) ({ cls := "EchoFair", name := "staffMember", desc := "(II)I" } : MethodName)) ∈ ALL := all_t6 (i := 13) rfl rfl
theorem wd_1214 : (Cond.instanceMethod ({ cls := "EchoFair", name := "staffMember", desc := "(II)I" } : MethodName)) ∈ ALL := all_t6 (i := 14) rfl rfl
theorem wd_1215 : (Cond.selects "EchoFair" ({ cls := "EchoFair", name := "staffMember", desc := "(II)I" } : MethodName) ({ cls := "EchoFair", name := "staffMember", desc := "(II)I" } : MethodName)) ∈ ALL := all_t6 (i := 15) rfl rfl
theorem wd_1216 : (Cond.code ({ cls := "EchoFair", name := "staffMember", desc := "(II)I" } : MethodName) prog_1_method_27_code (4 : Nat) (Option.some ClassFile.FieldType.int)) ∈ ALL := all_t6 (i := 16) rfl rfl
theorem wd_1218 : (Cond.static ({ cls := "EchoFairLaw", name := "isTested", desc := "(LEchoFair;II[J)I" } : MethodName)) ∈ ALL := all_t6 (i := 18) rfl rfl
theorem wd_1219 : (Cond.codeWith ({ cls := "EchoFairLaw", name := "isTested", desc := "(LEchoFair;II[J)I" } : MethodName) method_21_code (5 : Nat) (Option.some ClassFile.FieldType.int) [((0 : Nat), (17 : Nat), (20 : Nat), (34 : Nat))]) ∈ ALL := all_t6 (i := 19) rfl rfl
theorem wd_1220 : (Cond.methodLink "EchoFairLaw" (73 : Nat) ({ cls := "EchoFair", name := "isTested", desc := "(II)Z" } : MethodName)) ∈ ALL := all_t6 (i := 20) rfl rfl
theorem wd_1221 : (Cond.instanceMethod ({ cls := "EchoFair", name := "isTested", desc := "(II)Z" } : MethodName)) ∈ ALL := all_t6 (i := 21) rfl rfl
theorem wd_1222 : (Cond.selects "EchoFair" ({ cls := "EchoFair", name := "isTested", desc := "(II)Z" } : MethodName) ({ cls := "EchoFair", name := "isTested", desc := "(II)Z" } : MethodName)) ∈ ALL := all_t6 (i := 22) rfl rfl
theorem wd_1223 : (Cond.code ({ cls := "EchoFair", name := "isTested", desc := "(II)Z" } : MethodName) prog_1_method_28_code (3 : Nat) (Option.some ClassFile.FieldType.boolean)) ∈ ALL := all_t6 (i := 23) rfl rfl
theorem wd_1224 : (Cond.methodLink "EchoFair" (231 : Nat) ({ cls := "EchoFair", name := "requirePair", desc := "(II)V" } : MethodName)) ∈ ALL := all_t6 (i := 24) rfl rfl
theorem wd_1226 : (Cond.instanceMethod ({ cls := "EchoFair", name := "requirePair", desc := "(II)V" } : MethodName)) ∈ ALL := all_t6 (i := 26) rfl rfl
theorem wd_1227 : (Cond.code ({ cls := "EchoFair", name := "requirePair", desc := "(II)V" } : MethodName) prog_1_method_66_code (3 : Nat) (Option.none : Option ClassFile.FieldType)) ∈ ALL := all_t6 (i := 27) rfl rfl
theorem wd_1228 : (Cond.methodLink "EchoFair" (239 : Nat) ({ cls := "EchoFair$Valley", name := "hasTested", desc := "(I)Z" } : MethodName)) ∈ ALL := all_t6 (i := 28) rfl rfl
theorem wd_1230 : (Cond.static ({ cls := "EchoFairLaw", name := "seenScore", desc := "(LEchoFair;II[J)I" } : MethodName)) ∈ ALL := all_t6 (i := 30) rfl rfl
theorem wd_1231 : (Cond.codeWith ({ cls := "EchoFairLaw", name := "seenScore", desc := "(LEchoFair;II[J)I" } : MethodName) method_22_code (5 : Nat) (Option.some ClassFile.FieldType.int) [((0 : Nat), (10 : Nat), (13 : Nat), (34 : Nat))]) ∈ ALL := all_t6 (i := 31) rfl rfl
theorem wd_1232 : (Cond.methodLink "EchoFairLaw" (77 : Nat) ({ cls := "EchoFair", name := "seenScore", desc := "(II)I" } : MethodName)) ∈ ALL := all_t6 (i := 32) rfl rfl
theorem wd_1233 : (Cond.instanceMethod ({ cls := "EchoFair", name := "seenScore", desc := "(II)I" } : MethodName)) ∈ ALL := all_t6 (i := 33) rfl rfl
theorem wd_1234 : (Cond.selects "EchoFair" ({ cls := "EchoFair", name := "seenScore", desc := "(II)I" } : MethodName) ({ cls := "EchoFair", name := "seenScore", desc := "(II)I" } : MethodName)) ∈ ALL := all_t6 (i := 34) rfl rfl
theorem wd_1235 : (Cond.code ({ cls := "EchoFair", name := "seenScore", desc := "(II)I" } : MethodName) prog_1_method_29_code (3 : Nat) (Option.some ClassFile.FieldType.int)) ∈ ALL := all_t6 (i := 35) rfl rfl
theorem wd_1236 : (Cond.methodLink "EchoFair" (242 : Nat) ({ cls := "EchoFair$World", name := "scoreSeen", desc := "(II)I" } : MethodName)) ∈ ALL := all_t6 (i := 36) rfl rfl
theorem wd_1238 : (Cond.static ({ cls := "EchoFairLaw", name := "pairReason", desc := "(LEchoFair;II[J)I" } : MethodName)) ∈ ALL := all_t6 (i := 38) rfl rfl
theorem wd_1239 : (Cond.codeWith ({ cls := "EchoFairLaw", name := "pairReason", desc := "(LEchoFair;II[J)I" } : MethodName) method_23_code (5 : Nat) (Option.some ClassFile.FieldType.int) [((0 : Nat), (10 : Nat), (13 : Nat), (34 : Nat))]) ∈ ALL := all_t6 (i := 39) rfl rfl
theorem wd_1240 : (Cond.methodLink "EchoFairLaw" (80 : Nat) ({ cls := "EchoFair", name := "pairReason", desc := "(II)I" } : MethodName)) ∈ ALL := all_t6 (i := 40) rfl rfl
theorem wd_1241 : (Cond.instanceMethod ({ cls := "EchoFair", name := "pairReason", desc := "(II)I" } : MethodName)) ∈ ALL := all_t6 (i := 41) rfl rfl
theorem wd_1242 : (Cond.selects "EchoFair" ({ cls := "EchoFair", name := "pairReason", desc := "(II)I" } : MethodName) ({ cls := "EchoFair", name := "pairReason", desc := "(II)I" } : MethodName)) ∈ ALL := all_t6 (i := 42) rfl rfl
theorem wd_1243 : (Cond.code ({ cls := "EchoFair", name := "pairReason", desc := "(II)I" } : MethodName) prog_1_method_30_code (3 : Nat) (Option.some ClassFile.FieldType.int)) ∈ ALL := all_t6 (i := 43) rfl rfl
theorem wd_1244 : (Cond.methodLink "EchoFair" (246 : Nat) ({ cls := "EchoFair$World", name := "reasonAt", desc := "(III)I" } : MethodName)) ∈ ALL := all_t6 (i := 44) rfl rfl
theorem wd_1246 : (Cond.static ({ cls := "EchoFairLaw", name := "preferredValley", desc := "(LEchoFair;II[J)I" } : MethodName)) ∈ ALL := all_t6 (i := 46) rfl rfl
theorem wd_1247 : (Cond.codeWith ({ cls := "EchoFairLaw", name := "preferredValley", desc := "(LEchoFair;II[J)I" } : MethodName) method_24_code (5 : Nat) (Option.some ClassFile.FieldType.int) [((0 : Nat), (10 : Nat), (13 : Nat), (34 : Nat))]) ∈ ALL := all_t6 (i := 47) rfl rfl
theorem wd_1248 : (Cond.methodLink "EchoFairLaw" (83 : Nat) ({ cls := "EchoFair", name := "preferredValley", desc := "(II)I" } : MethodName)) ∈ ALL := all_t6 (i := 48) rfl rfl
theorem wd_1249 : (Cond.instanceMethod ({ cls := "EchoFair", name := "preferredValley", desc := "(II)I" } : MethodName)) ∈ ALL := all_t6 (i := 49) rfl rfl
theorem wd_1250 : (Cond.selects "EchoFair" ({ cls := "EchoFair", name := "preferredValley", desc := "(II)I" } : MethodName) ({ cls := "EchoFair", name := "preferredValley", desc := "(II)I" } : MethodName)) ∈ ALL := all_t6 (i := 50) rfl rfl
theorem wd_1251 : (Cond.code ({ cls := "EchoFair", name := "preferredValley", desc := "(II)I" } : MethodName) prog_1_method_31_code (4 : Nat) (Option.some ClassFile.FieldType.int)) ∈ ALL := all_t6 (i := 51) rfl rfl
theorem wd_1252 : (Cond.methodLink "EchoFair" (253 : Nat) ({ cls := "EchoFair$World", name := "isAcceptable", desc := "(II)Z" } : MethodName)) ∈ ALL := all_t6 (i := 52) rfl rfl
theorem wd_1253 : (Cond.methodLink "EchoFair" (257 : Nat) ({ cls := "EchoFair$World", name := "rankOfValley", desc := "(II)I" } : MethodName)) ∈ ALL := all_t6 (i := 53) rfl rfl
theorem wd_1254 : (Cond.instanceMethod ({ cls := "EchoFair$World", name := "rankOfValley", desc := "(II)I" } : MethodName)) ∈ ALL := all_t6 (i := 54) rfl rfl
theorem wd_1255 : (Cond.selects "EchoFair$World" ({ cls := "EchoFair$World", name := "rankOfValley", desc := "(II)I" } : MethodName) ({ cls := "EchoFair$World", name := "rankOfValley", desc := "(II)I" } : MethodName)) ∈ ALL := all_t6 (i := 55) rfl rfl
theorem wd_1256 : (Cond.code ({ cls := "EchoFair$World", name := "rankOfValley", desc := "(II)I" } : MethodName) prog_11_method_12_code (5 : Nat) (Option.some ClassFile.FieldType.int)) ∈ ALL := all_t6 (i := 56) rfl rfl
theorem wd_1258 : (Cond.static ({ cls := "EchoFairLaw", name := "preferredEcho", desc := "(LEchoFair;II[J)I" } : MethodName)) ∈ ALL := all_t6 (i := 58) rfl rfl
theorem wd_1259 : (Cond.codeWith ({ cls := "EchoFairLaw", name := "preferredEcho", desc := "(LEchoFair;II[J)I" } : MethodName) method_25_code (5 : Nat) (Option.some ClassFile.FieldType.int) [((0 : Nat), (10 : Nat), (13 : Nat), (34 : Nat))]) ∈ ALL := all_t6 (i := 59) rfl rfl
theorem wd_1260 : (Cond.methodLink "EchoFairLaw" (86 : Nat) ({ cls := "EchoFair", name := "preferredEcho", desc := "(II)I" } : MethodName)) ∈ ALL := all_t6 (i := 60) rfl rfl
theorem wd_1261 : (Cond.instanceMethod ({ cls := "EchoFair", name := "preferredEcho", desc := "(II)I" } : MethodName)) ∈ ALL := all_t6 (i := 61) rfl rfl
theorem wd_1262 : (Cond.selects "EchoFair" ({ cls := "EchoFair", name := "preferredEcho", desc := "(II)I" } : MethodName) ({ cls := "EchoFair", name := "preferredEcho", desc := "(II)I" } : MethodName)) ∈ ALL := all_t6 (i := 62) rfl rfl
theorem wd_1263 : (Cond.code ({ cls := "EchoFair", name := "preferredEcho", desc := "(II)I" } : MethodName) prog_1_method_32_code (4 : Nat) (Option.some ClassFile.FieldType.int)) ∈ ALL := all_t6 (i := 63) rfl rfl
theorem wd_1264 : (Cond.methodLink "EchoFair" (263 : Nat) ({ cls := "EchoFair$World", name := "rankOfEcho", desc := "(II)I" } : MethodName)) ∈ ALL := all_t6 (i := 64) rfl rfl
theorem wd_1265 : (Cond.instanceMethod ({ cls := "EchoFair$World", name := "rankOfEcho", desc := "(II)I" } : MethodName)) ∈ ALL := all_t6 (i := 65) rfl rfl
theorem wd_1266 : (Cond.selects "EchoFair$World" ({ cls := "EchoFair$World", name := "rankOfEcho", desc := "(II)I" } : MethodName) ({ cls := "EchoFair$World", name := "rankOfEcho", desc := "(II)I" } : MethodName)) ∈ ALL := all_t6 (i := 66) rfl rfl
theorem wd_1267 : (Cond.code ({ cls := "EchoFair$World", name := "rankOfEcho", desc := "(II)I" } : MethodName) prog_11_method_13_code (5 : Nat) (Option.some ClassFile.FieldType.int)) ∈ ALL := all_t6 (i := 67) rfl rfl
theorem wd_1269 : (Cond.static ({ cls := "EchoFairLaw", name := "fairResult", desc := "(LEchoFair;I[J)I" } : MethodName)) ∈ ALL := all_t6 (i := 69) rfl rfl
theorem wd_1270 : (Cond.codeWith ({ cls := "EchoFairLaw", name := "fairResult", desc := "(LEchoFair;I[J)I" } : MethodName) method_26_code (4 : Nat) (Option.some ClassFile.FieldType.int) [((0 : Nat), (9 : Nat), (12 : Nat), (34 : Nat))]) ∈ ALL := all_t6 (i := 70) rfl rfl
theorem wd_1271 : (Cond.methodLink "EchoFairLaw" (89 : Nat) ({ cls := "EchoFair", name := "fairResult", desc := "(I)I" } : MethodName)) ∈ ALL := all_t6 (i := 71) rfl rfl
theorem wd_1272 : (Cond.instanceMethod ({ cls := "EchoFair", name := "fairResult", desc := "(I)I" } : MethodName)) ∈ ALL := all_t6 (i := 72) rfl rfl
theorem wd_1273 : (Cond.selects "EchoFair" ({ cls := "EchoFair", name := "fairResult", desc := "(I)I" } : MethodName) ({ cls := "EchoFair", name := "fairResult", desc := "(I)I" } : MethodName)) ∈ ALL := all_t6 (i := 73) rfl rfl
theorem wd_1274 : (Cond.code ({ cls := "EchoFair", name := "fairResult", desc := "(I)I" } : MethodName) prog_1_method_34_code (2 : Nat) (Option.some ClassFile.FieldType.int)) ∈ ALL := all_t6 (i := 74) rfl rfl
theorem wd_1276 : (Cond.static ({ cls := "EchoFairLaw", name := "savingsAfter", desc := "(LEchoFair;II[J)I" } : MethodName)) ∈ ALL := all_t6 (i := 76) rfl rfl
theorem wd_1277 : (Cond.codeWith ({ cls := "EchoFairLaw", name := "savingsAfter", desc := "(LEchoFair;II[J)I" } : MethodName) method_27_code (5 : Nat) (Option.some ClassFile.FieldType.int) [((0 : Nat), (10 : Nat), (13 : Nat), (34 : Nat)), ((0 : Nat), (10 : Nat), (17 : Nat), (19 : Nat))]) ∈ ALL := all_t6 (i := 77) rfl rfl
theorem wd_1278 : (Cond.methodLink "EchoFairLaw" (92 : Nat) ({ cls := "EchoFair", name := "savingsAfter", desc := "(II)I" } : MethodName)) ∈ ALL := all_t6 (i := 78) rfl rfl
theorem wd_1279 : (Cond.instanceMethod ({ cls := "EchoFair", name := "savingsAfter", desc := "(II)I" } : MethodName)) ∈ ALL := all_t6 (i := 79) rfl rfl
theorem wd_1280 : (Cond.selects "EchoFair" ({ cls := "EchoFair", name := "savingsAfter", desc := "(II)I" } : MethodName) ({ cls := "EchoFair", name := "savingsAfter", desc := "(II)I" } : MethodName)) ∈ ALL := all_t6 (i := 80) rfl rfl
theorem wd_1281 : (Cond.code ({ cls := "EchoFair", name := "savingsAfter", desc := "(II)I" } : MethodName) prog_1_method_35_code (3 : Nat) (Option.some ClassFile.FieldType.int)) ∈ ALL := all_t6 (i := 81) rfl rfl
theorem wd_1282 : (Cond.methodLink "EchoFair" (280 : Nat) ({ cls := "EchoFair", name := "simulate", desc := "(I)V" } : MethodName)) ∈ ALL := all_t6 (i := 82) rfl rfl
theorem wd_1284 : (Cond.instanceMethod ({ cls := "EchoFair", name := "simulate", desc := "(I)V" } : MethodName)) ∈ ALL := all_t6 (i := 84) rfl rfl
theorem wd_1285 : (Cond.code ({ cls := "EchoFair", name := "simulate", desc := "(I)V" } : MethodName) prog_1_method_71_code (2 : Nat) (Option.none : Option ClassFile.FieldType)) ∈ ALL := all_t6 (i := 85) rfl rfl
theorem wd_1288 : (Cond.static ({ cls := "EchoFairLaw", name := "purseAfter", desc := "(LEchoFair;II[J)I" } : MethodName)) ∈ ALL := all_t6 (i := 88) rfl rfl
theorem wd_1289 : (Cond.codeWith ({ cls := "EchoFairLaw", name := "purseAfter", desc := "(LEchoFair;II[J)I" } : MethodName) method_28_code (5 : Nat) (Option.some ClassFile.FieldType.int) [((0 : Nat), (10 : Nat), (13 : Nat), (34 : Nat)), ((0 : Nat), (10 : Nat), (17 : Nat), (19 : Nat))]) ∈ ALL := all_t6 (i := 89) rfl rfl
theorem wd_1290 : (Cond.methodLink "EchoFairLaw" (95 : Nat) ({ cls := "EchoFair", name := "purseAfter", desc := "(II)I" } : MethodName)) ∈ ALL := all_t6 (i := 90) rfl rfl
theorem wd_1291 : (Cond.instanceMethod ({ cls := "EchoFair", name := "purseAfter", desc := "(II)I" } : MethodName)) ∈ ALL := all_t6 (i := 91) rfl rfl
theorem wd_1292 : (Cond.selects "EchoFair" ({ cls := "EchoFair", name := "purseAfter", desc := "(II)I" } : MethodName) ({ cls := "EchoFair", name := "purseAfter", desc := "(II)I" } : MethodName)) ∈ ALL := all_t6 (i := 92) rfl rfl
theorem wd_1293 : (Cond.code ({ cls := "EchoFair", name := "purseAfter", desc := "(II)I" } : MethodName) prog_1_method_36_code (3 : Nat) (Option.some ClassFile.FieldType.int)) ∈ ALL := all_t6 (i := 93) rfl rfl
theorem wd_1295 : (Cond.static ({ cls := "EchoFairLaw", name := "desertsIn", desc := "(LEchoFair;I[J)I" } : MethodName)) ∈ ALL := all_t6 (i := 95) rfl rfl
theorem wd_1296 : (Cond.codeWith ({ cls := "EchoFairLaw", name := "desertsIn", desc := "(LEchoFair;I[J)I" } : MethodName) method_29_code (4 : Nat) (Option.some ClassFile.FieldType.int) [((0 : Nat), (9 : Nat), (12 : Nat), (34 : Nat))]) ∈ ALL := all_t6 (i := 96) rfl rfl
theorem wd_1297 : (Cond.methodLink "EchoFairLaw" (98 : Nat) ({ cls := "EchoFair", name := "desertsIn", desc := "(I)I" } : MethodName)) ∈ ALL := all_t6 (i := 97) rfl rfl
theorem wd_1298 : (Cond.instanceMethod ({ cls := "EchoFair", name := "desertsIn", desc := "(I)I" } : MethodName)) ∈ ALL := all_t6 (i := 98) rfl rfl
theorem wd_1299 : (Cond.selects "EchoFair" ({ cls := "EchoFair", name := "desertsIn", desc := "(I)I" } : MethodName) ({ cls := "EchoFair", name := "desertsIn", desc := "(I)I" } : MethodName)) ∈ ALL := all_t6 (i := 99) rfl rfl
theorem wd_1300 : (Cond.code ({ cls := "EchoFair", name := "desertsIn", desc := "(I)I" } : MethodName) prog_1_method_37_code (4 : Nat) (Option.some ClassFile.FieldType.int)) ∈ ALL := all_t6 (i := 100) rfl rfl
theorem wd_1302 : (Cond.static ({ cls := "EchoFairLaw", name := "leastWage", desc := "(LEchoFair;II[J)I" } : MethodName)) ∈ ALL := all_t6 (i := 102) rfl rfl
theorem wd_1303 : (Cond.codeWith ({ cls := "EchoFairLaw", name := "leastWage", desc := "(LEchoFair;II[J)I" } : MethodName) method_30_code (5 : Nat) (Option.some ClassFile.FieldType.int) [((0 : Nat), (10 : Nat), (13 : Nat), (34 : Nat))]) ∈ ALL := all_t6 (i := 103) rfl rfl
theorem wd_1304 : (Cond.methodLink "EchoFairLaw" (101 : Nat) ({ cls := "EchoFair", name := "leastWage", desc := "(II)I" } : MethodName)) ∈ ALL := all_t6 (i := 104) rfl rfl
theorem wd_1305 : (Cond.instanceMethod ({ cls := "EchoFair", name := "leastWage", desc := "(II)I" } : MethodName)) ∈ ALL := all_t6 (i := 105) rfl rfl
theorem wd_1306 : (Cond.selects "EchoFair" ({ cls := "EchoFair", name := "leastWage", desc := "(II)I" } : MethodName) ({ cls := "EchoFair", name := "leastWage", desc := "(II)I" } : MethodName)) ∈ ALL := all_t6 (i := 106) rfl rfl
theorem wd_1307 : (Cond.code ({ cls := "EchoFair", name := "leastWage", desc := "(II)I" } : MethodName) prog_1_method_38_code (4 : Nat) (Option.some ClassFile.FieldType.int)) ∈ ALL := all_t6 (i := 107) rfl rfl
theorem wd_1309 : (Cond.static ({ cls := "EchoFairLaw", name := "bestTest", desc := "(LEchoFair;I[J)I" } : MethodName)) ∈ ALL := all_t6 (i := 109) rfl rfl
theorem wd_1310 : (Cond.codeWith ({ cls := "EchoFairLaw", name := "bestTest", desc := "(LEchoFair;I[J)I" } : MethodName) method_31_code (4 : Nat) (Option.some ClassFile.FieldType.int) [((0 : Nat), (9 : Nat), (12 : Nat), (34 : Nat))]) ∈ ALL := all_t6 (i := 110) rfl rfl
theorem wd_1311 : (Cond.methodLink "EchoFairLaw" (104 : Nat) ({ cls := "EchoFair", name := "bestTest", desc := "(I)I" } : MethodName)) ∈ ALL := all_t6 (i := 111) rfl rfl
theorem wd_1312 : (Cond.instanceMethod ({ cls := "EchoFair", name := "bestTest", desc := "(I)I" } : MethodName)) ∈ ALL := all_t6 (i := 112) rfl rfl
theorem wd_1313 : (Cond.selects "EchoFair" ({ cls := "EchoFair", name := "bestTest", desc := "(I)I" } : MethodName) ({ cls := "EchoFair", name := "bestTest", desc := "(I)I" } : MethodName)) ∈ ALL := all_t6 (i := 113) rfl rfl
theorem wd_1314 : (Cond.code ({ cls := "EchoFair", name := "bestTest", desc := "(I)I" } : MethodName) prog_1_method_39_code (6 : Nat) (Option.some ClassFile.FieldType.int)) ∈ ALL := all_t6 (i := 114) rfl rfl
theorem wd_1315 : (Cond.methodLink "EchoFair" (290 : Nat) ({ cls := "EchoFair$World", name := "trueScore", desc := "(II)I" } : MethodName)) ∈ ALL := all_t6 (i := 115) rfl rfl
theorem wd_1317 : (Cond.static ({ cls := "EchoFairLaw", name := "daysServed", desc := "(LEchoFair;II[J)I" } : MethodName)) ∈ ALL := all_t6 (i := 117) rfl rfl
theorem wd_1318 : (Cond.codeWith ({ cls := "EchoFairLaw", name := "daysServed", desc := "(LEchoFair;II[J)I" } : MethodName) method_32_code (5 : Nat) (Option.some ClassFile.FieldType.int) [((0 : Nat), (10 : Nat), (13 : Nat), (34 : Nat))]) ∈ ALL := all_t6 (i := 118) rfl rfl
theorem wd_1319 : (Cond.methodLink "EchoFairLaw" (107 : Nat) ({ cls := "EchoFair", name := "daysServed", desc := "(II)I" } : MethodName)) ∈ ALL := all_t6 (i := 119) rfl rfl
theorem wd_1320 : (Cond.instanceMethod ({ cls := "EchoFair", name := "daysServed", desc := "(II)I" } : MethodName)) ∈ ALL := all_t6 (i := 120) rfl rfl
theorem wd_1321 : (Cond.selects "EchoFair" ({ cls := "EchoFair", name := "daysServed", desc := "(II)I" } : MethodName) ({ cls := "EchoFair", name := "daysServed", desc := "(II)I" } : MethodName)) ∈ ALL := all_t6 (i := 121) rfl rfl
theorem wd_1322 : (Cond.code ({ cls := "EchoFair", name := "daysServed", desc := "(II)I" } : MethodName) prog_1_method_41_code (3 : Nat) (Option.some ClassFile.FieldType.int)) ∈ ALL := all_t6 (i := 122) rfl rfl
theorem wd_1324 : (Cond.static ({ cls := "EchoFairLaw", name := "desertions", desc := "(LEchoFair;I[J)I" } : MethodName)) ∈ ALL := all_t6 (i := 124) rfl rfl
theorem wd_1325 : (Cond.codeWith ({ cls := "EchoFairLaw", name := "desertions", desc := "(LEchoFair;I[J)I" } : MethodName) method_33_code (4 : Nat) (Option.some ClassFile.FieldType.int) [((0 : Nat), (9 : Nat), (12 : Nat), (34 : Nat))]) ∈ ALL := all_t6 (i := 125) rfl rfl
theorem wd_1326 : (Cond.methodLink "EchoFairLaw" (110 : Nat) ({ cls := "EchoFair", name := "desertions", desc := "(I)I" } : MethodName)) ∈ ALL := all_t6 (i := 126) rfl rfl
theorem wd_1327 : (Cond.instanceMethod ({ cls := "EchoFair", name := "desertions", desc := "(I)I" } : MethodName)) ∈ ALL := all_t6 (i := 127) rfl rfl
theorem wd_1328 : (Cond.selects "EchoFair" ({ cls := "EchoFair", name := "desertions", desc := "(I)I" } : MethodName) ({ cls := "EchoFair", name := "desertions", desc := "(I)I" } : MethodName)) ∈ ALL := all_t6 (i := 128) rfl rfl
theorem wd_1329 : (Cond.code ({ cls := "EchoFair", name := "desertions", desc := "(I)I" } : MethodName) prog_1_method_44_code (2 : Nat) (Option.some ClassFile.FieldType.int)) ∈ ALL := all_t6 (i := 129) rfl rfl
theorem wd_1331 : (Cond.static ({ cls := "EchoFairLaw", name := "repliesHeard", desc := "(LEchoFair;I[J)I" } : MethodName)) ∈ ALL := all_t6 (i := 131) rfl rfl
theorem wd_1332 : (Cond.codeWith ({ cls := "EchoFairLaw", name := "repliesHeard", desc := "(LEchoFair;I[J)I" } : MethodName) method_34_code (4 : Nat) (Option.some ClassFile.FieldType.int) [((0 : Nat), (9 : Nat), (12 : Nat), (34 : Nat))]) ∈ ALL := all_t6 (i := 132) rfl rfl
theorem wd_1333 : (Cond.methodLink "EchoFairLaw" (113 : Nat) ({ cls := "EchoFair", name := "repliesHeard", desc := "(I)I" } : MethodName)) ∈ ALL := all_t6 (i := 133) rfl rfl
theorem wd_1334 : (Cond.instanceMethod ({ cls := "EchoFair", name := "repliesHeard", desc := "(I)I" } : MethodName)) ∈ ALL := all_t6 (i := 134) rfl rfl
theorem wd_1335 : (Cond.selects "EchoFair" ({ cls := "EchoFair", name := "repliesHeard", desc := "(I)I" } : MethodName) ({ cls := "EchoFair", name := "repliesHeard", desc := "(I)I" } : MethodName)) ∈ ALL := all_t6 (i := 135) rfl rfl
theorem wd_1336 : (Cond.code ({ cls := "EchoFair", name := "repliesHeard", desc := "(I)I" } : MethodName) prog_1_method_45_code (2 : Nat) (Option.some ClassFile.FieldType.int)) ∈ ALL := all_t6 (i := 136) rfl rfl
theorem wd_1338 : (Cond.static ({ cls := "EchoFairLaw", name := "wagesPaid", desc := "(LEchoFair;I[J)I" } : MethodName)) ∈ ALL := all_t6 (i := 138) rfl rfl
theorem wd_1339 : (Cond.codeWith ({ cls := "EchoFairLaw", name := "wagesPaid", desc := "(LEchoFair;I[J)I" } : MethodName) method_35_code (4 : Nat) (Option.some ClassFile.FieldType.int) [((0 : Nat), (9 : Nat), (12 : Nat), (34 : Nat))]) ∈ ALL := all_t6 (i := 139) rfl rfl
theorem wd_1340 : (Cond.methodLink "EchoFairLaw" (116 : Nat) ({ cls := "EchoFair", name := "wagesPaid", desc := "(I)I" } : MethodName)) ∈ ALL := all_t6 (i := 140) rfl rfl
theorem wd_1341 : (Cond.instanceMethod ({ cls := "EchoFair", name := "wagesPaid", desc := "(I)I" } : MethodName)) ∈ ALL := all_t6 (i := 141) rfl rfl
theorem wd_1342 : (Cond.selects "EchoFair" ({ cls := "EchoFair", name := "wagesPaid", desc := "(I)I" } : MethodName) ({ cls := "EchoFair", name := "wagesPaid", desc := "(I)I" } : MethodName)) ∈ ALL := all_t6 (i := 142) rfl rfl
theorem wd_1343 : (Cond.code ({ cls := "EchoFair", name := "wagesPaid", desc := "(I)I" } : MethodName) prog_1_method_46_code (2 : Nat) (Option.some ClassFile.FieldType.int)) ∈ ALL := all_t6 (i := 143) rfl rfl
theorem wd_1345 : (Cond.static ({ cls := "EchoFairLaw", name := "passDays", desc := "(LEchoFair;I[J)I" } : MethodName)) ∈ ALL := all_t6 (i := 145) rfl rfl
theorem wd_1346 : (Cond.codeWith ({ cls := "EchoFairLaw", name := "passDays", desc := "(LEchoFair;I[J)I" } : MethodName) method_36_code (4 : Nat) (Option.some ClassFile.FieldType.int) [((0 : Nat), (9 : Nat), (12 : Nat), (19 : Nat))]) ∈ ALL := all_t6 (i := 146) rfl rfl
theorem wd_1347 : (Cond.methodLink "EchoFairLaw" (119 : Nat) ({ cls := "EchoFair", name := "passDays", desc := "(I)I" } : MethodName)) ∈ ALL := all_t6 (i := 147) rfl rfl
theorem wd_1348 : (Cond.instanceMethod ({ cls := "EchoFair", name := "passDays", desc := "(I)I" } : MethodName)) ∈ ALL := all_t6 (i := 148) rfl rfl
theorem wd_1349 : (Cond.selects "EchoFair" ({ cls := "EchoFair", name := "passDays", desc := "(I)I" } : MethodName) ({ cls := "EchoFair", name := "passDays", desc := "(I)I" } : MethodName)) ∈ ALL := all_t6 (i := 149) rfl rfl
theorem wd_1350 : (Cond.code ({ cls := "EchoFair", name := "passDays", desc := "(I)I" } : MethodName) prog_1_method_52_code (2 : Nat) (Option.some ClassFile.FieldType.int)) ∈ ALL := all_t6 (i := 150) rfl rfl
theorem wd_1352 : (Cond.static ({ cls := "EchoFairLaw", name := "test", desc := "(LEchoFair;II[J)I" } : MethodName)) ∈ ALL := all_t6 (i := 152) rfl rfl
theorem wd_1353 : (Cond.codeWith ({ cls := "EchoFairLaw", name := "test", desc := "(LEchoFair;II[J)I" } : MethodName) method_37_code (5 : Nat) (Option.some ClassFile.FieldType.int) [((0 : Nat), (10 : Nat), (13 : Nat), (34 : Nat)), ((0 : Nat), (10 : Nat), (17 : Nat), (13 : Nat))]) ∈ ALL := all_t6 (i := 153) rfl rfl
theorem wd_1354 : (Cond.methodLink "EchoFairLaw" (122 : Nat) ({ cls := "EchoFair", name := "test", desc := "(II)I" } : MethodName)) ∈ ALL := all_t6 (i := 154) rfl rfl
theorem wd_1355 : (Cond.instanceMethod ({ cls := "EchoFair", name := "test", desc := "(II)I" } : MethodName)) ∈ ALL := all_t6 (i := 155) rfl rfl
theorem wd_1356 : (Cond.selects "EchoFair" ({ cls := "EchoFair", name := "test", desc := "(II)I" } : MethodName) ({ cls := "EchoFair", name := "test", desc := "(II)I" } : MethodName)) ∈ ALL := all_t6 (i := 156) rfl rfl
theorem wd_1357 : (Cond.code ({ cls := "EchoFair", name := "test", desc := "(II)I" } : MethodName) prog_1_method_54_code (3 : Nat) (Option.some ClassFile.FieldType.int)) ∈ ALL := all_t6 (i := 157) rfl rfl
theorem wd_1360 : (Cond.static ({ cls := "EchoFairLaw", name := "dismiss", desc := "(LEchoFair;I[J)I" } : MethodName)) ∈ ALL := all_t6 (i := 160) rfl rfl
theorem wd_1361 : (Cond.codeWith ({ cls := "EchoFairLaw", name := "dismiss", desc := "(LEchoFair;I[J)I" } : MethodName) method_38_code (4 : Nat) (Option.some ClassFile.FieldType.int) [((0 : Nat), (9 : Nat), (12 : Nat), (34 : Nat)), ((0 : Nat), (9 : Nat), (15 : Nat), (13 : Nat))]) ∈ ALL := all_t6 (i := 161) rfl rfl
theorem wd_1362 : (Cond.methodLink "EchoFairLaw" (125 : Nat) ({ cls := "EchoFair", name := "dismiss", desc := "(I)I" } : MethodName)) ∈ ALL := all_t6 (i := 162) rfl rfl
theorem wd_1363 : (Cond.instanceMethod ({ cls := "EchoFair", name := "dismiss", desc := "(I)I" } : MethodName)) ∈ ALL := all_t6 (i := 163) rfl rfl
theorem wd_1364 : (Cond.selects "EchoFair" ({ cls := "EchoFair", name := "dismiss", desc := "(I)I" } : MethodName) ({ cls := "EchoFair", name := "dismiss", desc := "(I)I" } : MethodName)) ∈ ALL := all_t6 (i := 164) rfl rfl
theorem wd_1365 : (Cond.code ({ cls := "EchoFair", name := "dismiss", desc := "(I)I" } : MethodName) prog_1_method_55_code (3 : Nat) (Option.some ClassFile.FieldType.int)) ∈ ALL := all_t6 (i := 165) rfl rfl
theorem wd_1368 : (Cond.static ({ cls := "EchoFairLaw", name := "setWage", desc := "(LEchoFair;II[J)I" } : MethodName)) ∈ ALL := all_t6 (i := 168) rfl rfl
theorem wd_1369 : (Cond.codeWith ({ cls := "EchoFairLaw", name := "setWage", desc := "(LEchoFair;II[J)I" } : MethodName) method_39_code (5 : Nat) (Option.some ClassFile.FieldType.int) [((0 : Nat), (10 : Nat), (13 : Nat), (34 : Nat)), ((0 : Nat), (10 : Nat), (17 : Nat), (19 : Nat))]) ∈ ALL := all_t6 (i := 169) rfl rfl
theorem wd_1370 : (Cond.methodLink "EchoFairLaw" (128 : Nat) ({ cls := "EchoFair", name := "setWage", desc := "(II)I" } : MethodName)) ∈ ALL := all_t6 (i := 170) rfl rfl
theorem wd_1371 : (Cond.instanceMethod ({ cls := "EchoFair", name := "setWage", desc := "(II)I" } : MethodName)) ∈ ALL := all_t6 (i := 171) rfl rfl
theorem wd_1372 : (Cond.selects "EchoFair" ({ cls := "EchoFair", name := "setWage", desc := "(II)I" } : MethodName) ({ cls := "EchoFair", name := "setWage", desc := "(II)I" } : MethodName)) ∈ ALL := all_t6 (i := 172) rfl rfl
theorem wd_1373 : (Cond.code ({ cls := "EchoFair", name := "setWage", desc := "(II)I" } : MethodName) prog_1_method_56_code (5 : Nat) (Option.some ClassFile.FieldType.int)) ∈ ALL := all_t6 (i := 173) rfl rfl
theorem wd_1376 : (Cond.static ({ cls := "EchoFairLaw", name := "fund", desc := "(LEchoFair;II[J)I" } : MethodName)) ∈ ALL := all_t6 (i := 176) rfl rfl
theorem wd_1377 : (Cond.codeWith ({ cls := "EchoFairLaw", name := "fund", desc := "(LEchoFair;II[J)I" } : MethodName) method_40_code (5 : Nat) (Option.some ClassFile.FieldType.int) [((0 : Nat), (10 : Nat), (13 : Nat), (34 : Nat)), ((0 : Nat), (10 : Nat), (17 : Nat), (19 : Nat))]) ∈ ALL := all_t6 (i := 177) rfl rfl
theorem wd_1378 : (Cond.methodLink "EchoFairLaw" (131 : Nat) ({ cls := "EchoFair", name := "fund", desc := "(II)I" } : MethodName)) ∈ ALL := all_t6 (i := 178) rfl rfl
theorem wd_1379 : (Cond.instanceMethod ({ cls := "EchoFair", name := "fund", desc := "(II)I" } : MethodName)) ∈ ALL := all_t6 (i := 179) rfl rfl
theorem wd_1380 : (Cond.selects "EchoFair" ({ cls := "EchoFair", name := "fund", desc := "(II)I" } : MethodName) ({ cls := "EchoFair", name := "fund", desc := "(II)I" } : MethodName)) ∈ ALL := all_t6 (i := 180) rfl rfl
theorem wd_1381 : (Cond.code ({ cls := "EchoFair", name := "fund", desc := "(II)I" } : MethodName) prog_1_method_57_code (4 : Nat) (Option.some ClassFile.FieldType.int)) ∈ ALL := all_t6 (i := 181) rfl rfl
theorem wd_1384 : (Cond.static ({ cls := "EchoFairLaw", name := "train", desc := "(LEchoFair;I[J)I" } : MethodName)) ∈ ALL := all_t6 (i := 184) rfl rfl
theorem wd_1385 : (Cond.codeWith ({ cls := "EchoFairLaw", name := "train", desc := "(LEchoFair;I[J)I" } : MethodName) method_41_code (4 : Nat) (Option.some ClassFile.FieldType.int) [((0 : Nat), (9 : Nat), (12 : Nat), (34 : Nat)), ((0 : Nat), (9 : Nat), (15 : Nat), (13 : Nat))]) ∈ ALL := all_t6 (i := 185) rfl rfl
theorem wd_1386 : (Cond.methodLink "EchoFairLaw" (134 : Nat) ({ cls := "EchoFair", name := "train", desc := "(I)I" } : MethodName)) ∈ ALL := all_t6 (i := 186) rfl rfl
theorem wd_1387 : (Cond.instanceMethod ({ cls := "EchoFair", name := "train", desc := "(I)I" } : MethodName)) ∈ ALL := all_t6 (i := 187) rfl rfl
theorem wd_1388 : (Cond.selects "EchoFair" ({ cls := "EchoFair", name := "train", desc := "(I)I" } : MethodName) ({ cls := "EchoFair", name := "train", desc := "(I)I" } : MethodName)) ∈ ALL := all_t6 (i := 188) rfl rfl
theorem wd_1389 : (Cond.code ({ cls := "EchoFair", name := "train", desc := "(I)I" } : MethodName) prog_1_method_58_code (3 : Nat) (Option.some ClassFile.FieldType.int)) ∈ ALL := all_t6 (i := 189) rfl rfl
theorem wd_1392 : (Cond.static ({ cls := "EchoFairLaw", name := "undo", desc := "(LEchoFair;[J)I" } : MethodName)) ∈ ALL := all_t6 (i := 192) rfl rfl
theorem wd_1393 : (Cond.codeWith ({ cls := "EchoFairLaw", name := "undo", desc := "(LEchoFair;[J)I" } : MethodName) method_42_code (3 : Nat) (Option.some ClassFile.FieldType.int) [((0 : Nat), (8 : Nat), (11 : Nat), (13 : Nat))]) ∈ ALL := all_t6 (i := 193) rfl rfl
theorem wd_1394 : (Cond.methodLink "EchoFairLaw" (137 : Nat) ({ cls := "EchoFair", name := "undo", desc := "()I" } : MethodName)) ∈ ALL := all_t6 (i := 194) rfl rfl
theorem wd_1395 : (Cond.instanceMethod ({ cls := "EchoFair", name := "undo", desc := "()I" } : MethodName)) ∈ ALL := all_t6 (i := 195) rfl rfl
theorem wd_1396 : (Cond.selects "EchoFair" ({ cls := "EchoFair", name := "undo", desc := "()I" } : MethodName) ({ cls := "EchoFair", name := "undo", desc := "()I" } : MethodName)) ∈ ALL := all_t6 (i := 196) rfl rfl
theorem wd_1397 : (Cond.code ({ cls := "EchoFair", name := "undo", desc := "()I" } : MethodName) prog_1_method_59_code (1 : Nat) (Option.some ClassFile.FieldType.int)) ∈ ALL := all_t6 (i := 197) rfl rfl
theorem wd_1399 : (Cond.methodLink "EchoFair" (365 : Nat) ({ cls := "EchoFair$History", name := "pop", desc := "(LEchoFair$World;)V" } : MethodName)) ∈ ALL := all_t6 (i := 199) rfl rfl
theorem wd_1400 : (Cond.instanceMethod ({ cls := "EchoFair$History", name := "pop", desc := "(LEchoFair$World;)V" } : MethodName)) ∈ ALL := all_t6 (i := 200) rfl rfl
theorem wd_1401 : (Cond.selects "EchoFair$History" ({ cls := "EchoFair$History", name := "pop", desc := "(LEchoFair$World;)V" } : MethodName) ({ cls := "EchoFair$History", name := "pop", desc := "(LEchoFair$World;)V" } : MethodName)) ∈ ALL := all_t6 (i := 201) rfl rfl
theorem wd_1402 : (Cond.code ({ cls := "EchoFair$History", name := "pop", desc := "(LEchoFair$World;)V" } : MethodName) prog_6_method_3_code (2 : Nat) (Option.none : Option ClassFile.FieldType)) ∈ ALL := all_t6 (i := 202) rfl rfl
theorem wd_1404 : (Cond.static ({ cls := "EchoFairLaw", name := "restore", desc := "(LEchoFair;[J)I" } : MethodName)) ∈ ALL := all_t6 (i := 204) rfl rfl
theorem wd_1405 : (Cond.codeWith ({ cls := "EchoFairLaw", name := "restore", desc := "(LEchoFair;[J)I" } : MethodName) method_43_code (3 : Nat) (Option.some ClassFile.FieldType.int) [((0 : Nat), (8 : Nat), (11 : Nat), (13 : Nat))]) ∈ ALL := all_t6 (i := 205) rfl rfl
theorem wd_1406 : (Cond.methodLink "EchoFairLaw" (140 : Nat) ({ cls := "EchoFair", name := "restore", desc := "()I" } : MethodName)) ∈ ALL := all_t6 (i := 206) rfl rfl
theorem wd_1407 : (Cond.instanceMethod ({ cls := "EchoFair", name := "restore", desc := "()I" } : MethodName)) ∈ ALL := all_t6 (i := 207) rfl rfl
theorem wd_1408 : (Cond.selects "EchoFair" ({ cls := "EchoFair", name := "restore", desc := "()I" } : MethodName) ({ cls := "EchoFair", name := "restore", desc := "()I" } : MethodName)) ∈ ALL := all_t6 (i := 208) rfl rfl
theorem wd_1409 : (Cond.code ({ cls := "EchoFair", name := "restore", desc := "()I" } : MethodName) prog_1_method_61_code (1 : Nat) (Option.some ClassFile.FieldType.int)) ∈ ALL := all_t6 (i := 209) rfl rfl
theorem wd_1414 : (Cond.instanceMethod ({ cls := "EchoFairModel", name := "<init>", desc := "()V" } : MethodName)) ∈ ALL := all_t6 (i := 214) rfl rfl
theorem wd_1415 : (Cond.code ({ cls := "EchoFairModel", name := "<init>", desc := "()V" } : MethodName) prog_13_method_1_code (3 : Nat) (Option.none : Option ClassFile.FieldType)) ∈ ALL := all_t6 (i := 215) rfl rfl
theorem wd_1416 : (Cond.methodLink "EchoFairModel" (1 : Nat) ({ cls := "java/lang/Object", name := "<init>", desc := "()V" } : MethodName)) ∈ ALL := all_t6 (i := 216) rfl rfl
theorem wd_1418 : (Cond.methodLink "EchoFairModel" (53 : Nat) ({ cls := "java/lang/String", name := "length", desc := "()I" } : MethodName)) ∈ ALL := all_t6 (i := 218) rfl rfl
theorem wd_1419 : (Cond.methodLink "EchoFairModel" (59 : Nat) ({ cls := "java/lang/String", name := "charAt", desc := "(I)C" } : MethodName)) ∈ ALL := all_t6 (i := 219) rfl rfl
theorem wd_1420 : (Cond.methodLink "EchoFairModel" (65 : Nat) ({ cls := "EchoFairModel", name := "load", desc := "()I" } : MethodName)) ∈ ALL := all_t6 (i := 220) rfl rfl
theorem wd_1421 : (Cond.instanceMethod ({ cls := "EchoFairModel", name := "load", desc := "()I" } : MethodName)) ∈ ALL := all_t6 (i := 221) rfl rfl
theorem wd_1422 : (Cond.selects "EchoFairModel" ({ cls := "EchoFairModel", name := "load", desc := "()I" } : MethodName) ({ cls := "EchoFairModel", name := "load", desc := "()I" } : MethodName)) ∈ ALL := all_t6 (i := 222) rfl rfl
theorem wd_1423 : (Cond.code ({ cls := "EchoFairModel", name := "load", desc := "()I" } : MethodName) prog_13_method_81_code (2 : Nat) (Option.some ClassFile.FieldType.int)) ∈ ALL := all_t6 (i := 223) rfl rfl
theorem wd_1424 : (Cond.methodLink "EchoFairModel" (71 : Nat) ({ cls := "EchoFairModel", name := "copies", desc := "([II[II)V" } : MethodName)) ∈ ALL := all_t6 (i := 224) rfl rfl
theorem wd_1425 : (Cond.static ({ cls := "EchoFairModel", name := "copies", desc := "([II[II)V" } : MethodName)) ∈ ALL := all_t6 (i := 225) rfl rfl
theorem wd_1426 : (Cond.code ({ cls := "EchoFairModel", name := "copies", desc := "([II[II)V" } : MethodName) prog_13_method_7_code (5 : Nat) (Option.none : Option ClassFile.FieldType)) ∈ ALL := all_t6 (i := 226) rfl rfl
theorem wd_1427 : (Cond.methodLink "EchoFairModel" (314 : Nat) ({ cls := "EchoFairModel", name := "startsText", desc := "()V" } : MethodName)) ∈ ALL := all_t6 (i := 227) rfl rfl
theorem wd_1429 : (Cond.instanceMethod ({ cls := "EchoFairModel", name := "startsText", desc := "()V" } : MethodName)) ∈ ALL := all_t6 (i := 229) rfl rfl
theorem wd_1430 : (Cond.code ({ cls := "EchoFairModel", name := "startsText", desc := "()V" } : MethodName) prog_13_method_72_code (1 : Nat) (Option.none : Option ClassFile.FieldType)) ∈ ALL := all_t6 (i := 230) rfl rfl
theorem wd_1432 : (Cond.methodLink "EchoFairModel" (279 : Nat) ({ cls := "EchoFairModel", name := "keyword", desc := "(Ljava/lang/String;)V" } : MethodName)) ∈ ALL := all_t6 (i := 232) rfl rfl
theorem wd_1434 : (Cond.instanceMethod ({ cls := "EchoFairModel", name := "keyword", desc := "(Ljava/lang/String;)V" } : MethodName)) ∈ ALL := all_t6 (i := 234) rfl rfl
theorem wd_1435 : (Cond.code ({ cls := "EchoFairModel", name := "keyword", desc := "(Ljava/lang/String;)V" } : MethodName) prog_13_method_62_code (2 : Nat) (Option.none : Option ClassFile.FieldType)) ∈ ALL := all_t6 (i := 235) rfl rfl
theorem wd_1436 : (Cond.methodLink "EchoFairModel" (242 : Nat) ({ cls := "EchoFairModel", name := "sees", desc := "(Ljava/lang/String;)Z" } : MethodName)) ∈ ALL := all_t6 (i := 236) rfl rfl
theorem wd_1438 : (Cond.instanceMethod ({ cls := "EchoFairModel", name := "sees", desc := "(Ljava/lang/String;)Z" } : MethodName)) ∈ ALL := all_t6 (i := 238) rfl rfl
theorem wd_1439 : (Cond.code ({ cls := "EchoFairModel", name := "sees", desc := "(Ljava/lang/String;)Z" } : MethodName) prog_13_method_60_code (4 : Nat) (Option.some ClassFile.FieldType.boolean)) ∈ ALL := all_t6 (i := 239) rfl rfl
theorem wd_1440 : (Cond.methodLink "EchoFairModel" (239 : Nat) ({ cls := "EchoFairModel", name := "next", desc := "()I" } : MethodName)) ∈ ALL := all_t7 (i := 0) rfl rfl
theorem wd_1442 : (Cond.instanceMethod ({ cls := "EchoFairModel", name := "next", desc := "()I" } : MethodName)) ∈ ALL := all_t7 (i := 2) rfl rfl
theorem wd_1443 : (Cond.code ({ cls := "EchoFairModel", name := "next", desc := "()I" } : MethodName) prog_13_method_58_code (1 : Nat) (Option.some ClassFile.FieldType.int)) ∈ ALL := all_t7 (i := 3) rfl rfl
theorem wd_1444 : (Cond.methodLink "EchoFairModel" (220 : Nat) ({ cls := "EchoFairModel", name := "byteAt", desc := "(I)I" } : MethodName)) ∈ ALL := all_t7 (i := 4) rfl rfl
theorem wd_1446 : (Cond.instanceMethod ({ cls := "EchoFairModel", name := "byteAt", desc := "(I)I" } : MethodName)) ∈ ALL := all_t7 (i := 6) rfl rfl
theorem wd_1447 : (Cond.code ({ cls := "EchoFairModel", name := "byteAt", desc := "(I)I" } : MethodName) prog_13_method_57_code (2 : Nat) (Option.some ClassFile.FieldType.int)) ∈ ALL := all_t7 (i := 7) rfl rfl
theorem wd_1448 : (Cond.constantLong "EchoFairModel" (229 : Nat) (97 : Int64)) ∈ ALL := all_t7 (i := 8) rfl rfl
theorem wd_1449 : (Cond.constantLong "EchoFairModel" (231 : Nat) (122 : Int64)) ∈ ALL := all_t7 (i := 9) rfl rfl
theorem wd_1450 : (Cond.methodLink "EchoFairModel" (75 : Nat) ({ cls := "EchoFairModel", name := "in", desc := "(JJJ)Z" } : MethodName)) ∈ ALL := all_t7 (i := 10) rfl rfl
theorem wd_1451 : (Cond.static ({ cls := "EchoFairModel", name := "in", desc := "(JJJ)Z" } : MethodName)) ∈ ALL := all_t7 (i := 11) rfl rfl
theorem wd_1452 : (Cond.code ({ cls := "EchoFairModel", name := "in", desc := "(JJJ)Z" } : MethodName) prog_13_method_3_code (6 : Nat) (Option.some ClassFile.FieldType.boolean)) ∈ ALL := all_t7 (i := 12) rfl rfl
theorem wd_1453 : (Cond.methodLink "EchoFairModel" (246 : Nat) ({ cls := "EchoFairModel", name := "must", desc := "(ZI)V" } : MethodName)) ∈ ALL := all_t7 (i := 13) rfl rfl
theorem wd_1455 : (Cond.instanceMethod ({ cls := "EchoFairModel", name := "must", desc := "(ZI)V" } : MethodName)) ∈ ALL := all_t7 (i := 15) rfl rfl
theorem wd_1456 : (Cond.code ({ cls := "EchoFairModel", name := "must", desc := "(ZI)V" } : MethodName) prog_13_method_59_code (3 : Nat) (Option.none : Option ClassFile.FieldType)) ∈ ALL := all_t7 (i := 16) rfl rfl
theorem wd_1457 : (Cond.methodLink "EchoFairModel" (250 : Nat) ({ cls := "EchoFairModel", name := "goesPast", desc := "()V" } : MethodName)) ∈ ALL := all_t7 (i := 17) rfl rfl
theorem wd_1459 : (Cond.instanceMethod ({ cls := "EchoFairModel", name := "goesPast", desc := "()V" } : MethodName)) ∈ ALL := all_t7 (i := 19) rfl rfl
theorem wd_1460 : (Cond.code ({ cls := "EchoFairModel", name := "goesPast", desc := "()V" } : MethodName) prog_13_method_61_code (1 : Nat) (Option.none : Option ClassFile.FieldType)) ∈ ALL := all_t7 (i := 20) rfl rfl
theorem wd_1461 : (Cond.methodLink "EchoFairModel" (283 : Nat) ({ cls := "EchoFairModel", name := "number", desc := "(II)I" } : MethodName)) ∈ ALL := all_t7 (i := 21) rfl rfl
theorem wd_1463 : (Cond.instanceMethod ({ cls := "EchoFairModel", name := "number", desc := "(II)I" } : MethodName)) ∈ ALL := all_t7 (i := 23) rfl rfl
theorem wd_1464 : (Cond.code ({ cls := "EchoFairModel", name := "number", desc := "(II)I" } : MethodName) prog_13_method_64_code (4 : Nat) (Option.some ClassFile.FieldType.int)) ∈ ALL := all_t7 (i := 24) rfl rfl
theorem wd_1465 : (Cond.constantLong "EchoFairModel" (253 : Nat) (48 : Int64)) ∈ ALL := all_t7 (i := 25) rfl rfl
theorem wd_1466 : (Cond.constantLong "EchoFairModel" (255 : Nat) (57 : Int64)) ∈ ALL := all_t7 (i := 26) rfl rfl
theorem wd_1467 : (Cond.methodLink "EchoFairModel" (289 : Nat) ({ cls := "EchoFairModel", name := "semicolon", desc := "()V" } : MethodName)) ∈ ALL := all_t7 (i := 27) rfl rfl
theorem wd_1469 : (Cond.instanceMethod ({ cls := "EchoFairModel", name := "semicolon", desc := "()V" } : MethodName)) ∈ ALL := all_t7 (i := 29) rfl rfl
theorem wd_1470 : (Cond.code ({ cls := "EchoFairModel", name := "semicolon", desc := "()V" } : MethodName) prog_13_method_63_code (1 : Nat) (Option.none : Option ClassFile.FieldType)) ∈ ALL := all_t7 (i := 30) rfl rfl
theorem wd_1471 : (Cond.methodLink "EchoFairModel" (319 : Nat) ({ cls := "EchoFairModel", name := "fogLine", desc := "()V" } : MethodName)) ∈ ALL := all_t7 (i := 31) rfl rfl
theorem wd_1473 : (Cond.instanceMethod ({ cls := "EchoFairModel", name := "fogLine", desc := "()V" } : MethodName)) ∈ ALL := all_t7 (i := 33) rfl rfl
theorem wd_1474 : (Cond.code ({ cls := "EchoFairModel", name := "fogLine", desc := "()V" } : MethodName) prog_13_method_76_code (2 : Nat) (Option.none : Option ClassFile.FieldType)) ∈ ALL := all_t7 (i := 34) rfl rfl
theorem wd_1476 : (Cond.methodLink "EchoFairModel" (286 : Nat) ({ cls := "EchoFairModel", name := "isNumberNext", desc := "()Z" } : MethodName)) ∈ ALL := all_t7 (i := 36) rfl rfl
theorem wd_1478 : (Cond.instanceMethod ({ cls := "EchoFairModel", name := "isNumberNext", desc := "()Z" } : MethodName)) ∈ ALL := all_t7 (i := 38) rfl rfl
theorem wd_1479 : (Cond.code ({ cls := "EchoFairModel", name := "isNumberNext", desc := "()Z" } : MethodName) prog_13_method_65_code (1 : Nat) (Option.some ClassFile.FieldType.boolean)) ∈ ALL := all_t7 (i := 39) rfl rfl
theorem wd_1480 : (Cond.methodLink "EchoFairModel" (322 : Nat) ({ cls := "EchoFairModel", name := "statement", desc := "()V" } : MethodName)) ∈ ALL := all_t7 (i := 40) rfl rfl
theorem wd_1482 : (Cond.instanceMethod ({ cls := "EchoFairModel", name := "statement", desc := "()V" } : MethodName)) ∈ ALL := all_t7 (i := 42) rfl rfl
theorem wd_1483 : (Cond.code ({ cls := "EchoFairModel", name := "statement", desc := "()V" } : MethodName) prog_13_method_80_code (2 : Nat) (Option.none : Option ClassFile.FieldType)) ∈ ALL := all_t7 (i := 43) rfl rfl
theorem wd_1485 : (Cond.methodLink "EchoFairModel" (301 : Nat) ({ cls := "EchoFairModel", name := "echoLine", desc := "()V" } : MethodName)) ∈ ALL := all_t7 (i := 45) rfl rfl
theorem wd_1487 : (Cond.instanceMethod ({ cls := "EchoFairModel", name := "echoLine", desc := "()V" } : MethodName)) ∈ ALL := all_t7 (i := 47) rfl rfl
theorem wd_1488 : (Cond.code ({ cls := "EchoFairModel", name := "echoLine", desc := "()V" } : MethodName) prog_13_method_77_code (6 : Nat) (Option.none : Option ClassFile.FieldType)) ∈ ALL := all_t7 (i := 48) rfl rfl
theorem wd_1489 : (Cond.methodLink "EchoFairModel" (259 : Nat) ({ cls := "EchoFairModel", name := "placeOf", desc := "(IZ)I" } : MethodName)) ∈ ALL := all_t7 (i := 49) rfl rfl
theorem wd_1490 : (Cond.static ({ cls := "EchoFairModel", name := "placeOf", desc := "(IZ)I" } : MethodName)) ∈ ALL := all_t7 (i := 50) rfl rfl
theorem wd_1491 : (Cond.code ({ cls := "EchoFairModel", name := "placeOf", desc := "(IZ)I" } : MethodName) prog_13_method_68_code (2 : Nat) (Option.some ClassFile.FieldType.int)) ∈ ALL := all_t7 (i := 51) rfl rfl
theorem wd_1492 : (Cond.methodLink "EchoFairModel" (292 : Nat) ({ cls := "EchoFairModel", name := "newName", desc := "(IZ)V" } : MethodName)) ∈ ALL := all_t7 (i := 52) rfl rfl
theorem wd_1494 : (Cond.instanceMethod ({ cls := "EchoFairModel", name := "newName", desc := "(IZ)V" } : MethodName)) ∈ ALL := all_t7 (i := 54) rfl rfl
theorem wd_1495 : (Cond.code ({ cls := "EchoFairModel", name := "newName", desc := "(IZ)V" } : MethodName) prog_13_method_71_code (4 : Nat) (Option.none : Option ClassFile.FieldType)) ∈ ALL := all_t7 (i := 55) rfl rfl
theorem wd_1496 : (Cond.methodLink "EchoFairModel" (266 : Nat) ({ cls := "EchoFairModel", name := "isName", desc := "()Z" } : MethodName)) ∈ ALL := all_t7 (i := 56) rfl rfl
theorem wd_1498 : (Cond.instanceMethod ({ cls := "EchoFairModel", name := "isName", desc := "()Z" } : MethodName)) ∈ ALL := all_t7 (i := 58) rfl rfl
theorem wd_1499 : (Cond.code ({ cls := "EchoFairModel", name := "isName", desc := "()Z" } : MethodName) prog_13_method_66_code (2 : Nat) (Option.some ClassFile.FieldType.boolean)) ∈ ALL := all_t7 (i := 59) rfl rfl
theorem wd_1500 : (Cond.constantLong "EchoFairModel" (257 : Nat) (6 : Int64)) ∈ ALL := all_t7 (i := 60) rfl rfl
theorem wd_1501 : (Cond.methodLink "EchoFairModel" (270 : Nat) ({ cls := "EchoFairModel", name := "thingHere", desc := "(Z)I" } : MethodName)) ∈ ALL := all_t7 (i := 61) rfl rfl
theorem wd_1503 : (Cond.instanceMethod ({ cls := "EchoFairModel", name := "thingHere", desc := "(Z)I" } : MethodName)) ∈ ALL := all_t7 (i := 63) rfl rfl
theorem wd_1504 : (Cond.code ({ cls := "EchoFairModel", name := "thingHere", desc := "(Z)I" } : MethodName) prog_13_method_69_code (3 : Nat) (Option.some ClassFile.FieldType.int)) ∈ ALL := all_t7 (i := 64) rfl rfl
theorem wd_1505 : (Cond.methodLink "EchoFairModel" (263 : Nat) ({ cls := "EchoFairModel", name := "isNamed", desc := "(I)Z" } : MethodName)) ∈ ALL := all_t7 (i := 65) rfl rfl
theorem wd_1507 : (Cond.instanceMethod ({ cls := "EchoFairModel", name := "isNamed", desc := "(I)Z" } : MethodName)) ∈ ALL := all_t7 (i := 67) rfl rfl
theorem wd_1508 : (Cond.code ({ cls := "EchoFairModel", name := "isNamed", desc := "(I)Z" } : MethodName) prog_13_method_67_code (3 : Nat) (Option.some ClassFile.FieldType.boolean)) ∈ ALL := all_t7 (i := 68) rfl rfl
theorem wd_1509 : (Cond.methodLink "EchoFairModel" (116 : Nat) ({ cls := "EchoFairModel", name := "puts", desc := "(III)V" } : MethodName)) ∈ ALL := all_t7 (i := 69) rfl rfl
theorem wd_1511 : (Cond.instanceMethod ({ cls := "EchoFairModel", name := "puts", desc := "(III)V" } : MethodName)) ∈ ALL := all_t7 (i := 71) rfl rfl
theorem wd_1512 : (Cond.code ({ cls := "EchoFairModel", name := "puts", desc := "(III)V" } : MethodName) prog_13_method_11_code (4 : Nat) (Option.none : Option ClassFile.FieldType)) ∈ ALL := all_t7 (i := 72) rfl rfl
theorem wd_1514 : (Cond.methodLink "EchoFairModel" (306 : Nat) ({ cls := "EchoFairModel", name := "valleyLine", desc := "()V" } : MethodName)) ∈ ALL := all_t7 (i := 74) rfl rfl
theorem wd_1516 : (Cond.instanceMethod ({ cls := "EchoFairModel", name := "valleyLine", desc := "()V" } : MethodName)) ∈ ALL := all_t7 (i := 76) rfl rfl
theorem wd_1517 : (Cond.code ({ cls := "EchoFairModel", name := "valleyLine", desc := "()V" } : MethodName) prog_13_method_78_code (6 : Nat) (Option.none : Option ClassFile.FieldType)) ∈ ALL := all_t7 (i := 77) rfl rfl
theorem wd_1518 : (Cond.methodLink "EchoFairModel" (112 : Nat) ({ cls := "EchoFairModel", name := "putsValley", desc := "(III)V" } : MethodName)) ∈ ALL := all_t7 (i := 78) rfl rfl
theorem wd_1520 : (Cond.instanceMethod ({ cls := "EchoFairModel", name := "putsValley", desc := "(III)V" } : MethodName)) ∈ ALL := all_t7 (i := 80) rfl rfl
theorem wd_1521 : (Cond.code ({ cls := "EchoFairModel", name := "putsValley", desc := "(III)V" } : MethodName) prog_13_method_13_code (4 : Nat) (Option.none : Option ClassFile.FieldType)) ∈ ALL := all_t7 (i := 81) rfl rfl
theorem wd_1523 : (Cond.methodLink "EchoFairModel" (311 : Nat) ({ cls := "EchoFairModel", name := "testedLine", desc := "()V" } : MethodName)) ∈ ALL := all_t7 (i := 83) rfl rfl
theorem wd_1525 : (Cond.instanceMethod ({ cls := "EchoFairModel", name := "testedLine", desc := "()V" } : MethodName)) ∈ ALL := all_t7 (i := 85) rfl rfl
theorem wd_1526 : (Cond.code ({ cls := "EchoFairModel", name := "testedLine", desc := "()V" } : MethodName) prog_13_method_79_code (3 : Nat) (Option.none : Option ClassFile.FieldType)) ∈ ALL := all_t7 (i := 86) rfl rfl
theorem wd_1527 : (Cond.methodLink "EchoFairModel" (296 : Nat) ({ cls := "EchoFairModel", name := "mustBe", desc := "(Z)I" } : MethodName)) ∈ ALL := all_t7 (i := 87) rfl rfl
theorem wd_1529 : (Cond.instanceMethod ({ cls := "EchoFairModel", name := "mustBe", desc := "(Z)I" } : MethodName)) ∈ ALL := all_t7 (i := 89) rfl rfl
theorem wd_1530 : (Cond.code ({ cls := "EchoFairModel", name := "mustBe", desc := "(Z)I" } : MethodName) prog_13_method_70_code (3 : Nat) (Option.some ClassFile.FieldType.int)) ∈ ALL := all_t7 (i := 90) rfl rfl
theorem wd_1531 : (Cond.methodLink "EchoFairModel" (99 : Nat) ({ cls := "EchoFairModel", name := "pair", desc := "(III)I" } : MethodName)) ∈ ALL := all_t7 (i := 91) rfl rfl
theorem wd_1532 : (Cond.static ({ cls := "EchoFairModel", name := "pair", desc := "(III)I" } : MethodName)) ∈ ALL := all_t7 (i := 92) rfl rfl
theorem wd_1533 : (Cond.code ({ cls := "EchoFairModel", name := "pair", desc := "(III)I" } : MethodName) prog_13_method_14_code (3 : Nat) (Option.some ClassFile.FieldType.int)) ∈ ALL := all_t7 (i := 93) rfl rfl
theorem wd_1534 : (Cond.methodLink "EchoFairModel" (325 : Nat) ({ cls := "EchoFairModel", name := "endsText", desc := "()Z" } : MethodName)) ∈ ALL := all_t7 (i := 94) rfl rfl
theorem wd_1536 : (Cond.instanceMethod ({ cls := "EchoFairModel", name := "endsText", desc := "()Z" } : MethodName)) ∈ ALL := all_t7 (i := 96) rfl rfl
theorem wd_1537 : (Cond.code ({ cls := "EchoFairModel", name := "endsText", desc := "()Z" } : MethodName) prog_13_method_73_code (1 : Nat) (Option.some ClassFile.FieldType.boolean)) ∈ ALL := all_t7 (i := 97) rfl rfl
theorem wd_1538 : (Cond.methodLink "EchoFairModel" (210 : Nat) ({ cls := "EchoFairModel", name := "passes", desc := "(Z)Z" } : MethodName)) ∈ ALL := all_t7 (i := 98) rfl rfl
theorem wd_1540 : (Cond.instanceMethod ({ cls := "EchoFairModel", name := "passes", desc := "(Z)Z" } : MethodName)) ∈ ALL := all_t7 (i := 100) rfl rfl
theorem wd_1541 : (Cond.code ({ cls := "EchoFairModel", name := "passes", desc := "(Z)Z" } : MethodName) prog_13_method_5_code (2 : Nat) (Option.some ClassFile.FieldType.boolean)) ∈ ALL := all_t7 (i := 101) rfl rfl
theorem wd_1542 : (Cond.fieldLink "EchoFairModel" (7 : Nat) "EchoFairModel" "s" "[I") ∈ ALL := all_t7 (i := 102) rfl rfl
theorem wd_1543 : (Cond.fieldLink "EchoFairModel" (13 : Nat) "EchoFairModel" "saved" "[I") ∈ ALL := all_t7 (i := 103) rfl rfl
theorem wd_1544 : (Cond.fieldLink "EchoFairModel" (16 : Nat) "EchoFairModel" "held" "[I") ∈ ALL := all_t7 (i := 104) rfl rfl
theorem wd_1545 : (Cond.fieldLink "EchoFairModel" (19 : Nat) "EchoFairModel" "aside" "[I") ∈ ALL := all_t7 (i := 105) rfl rfl
theorem wd_1546 : (Cond.fieldLink "EchoFairModel" (22 : Nat) "EchoFairModel" "past" "[I") ∈ ALL := all_t7 (i := 106) rfl rfl
theorem wd_1547 : (Cond.fieldLink "EchoFairModel" (328 : Nat) "EchoFairModel" "pastMany" "I") ∈ ALL := all_t7 (i := 107) rfl rfl
theorem wd_1548 : (Cond.fieldLink "EchoFairModel" (68 : Nat) "EchoFairModel" "thrown" "I") ∈ ALL := all_t7 (i := 108) rfl rfl
theorem wd_1549 : (Cond.fieldLink "EchoFairModel" (463 : Nat) "EchoFairModel" "isSaved" "Z") ∈ ALL := all_t7 (i := 109) rfl rfl
theorem wd_1550 : (Cond.fieldLink "EchoFairModel" (25 : Nat) "EchoFairModel" "queue" "[I") ∈ ALL := all_t7 (i := 110) rfl rfl
theorem wd_1551 : (Cond.fieldLink "EchoFairModel" (28 : Nat) "EchoFairModel" "kept" "[I") ∈ ALL := all_t7 (i := 111) rfl rfl
theorem wd_1552 : (Cond.fieldLink "EchoFairModel" (31 : Nat) "EchoFairModel" "keptMany" "[I") ∈ ALL := all_t7 (i := 112) rfl rfl
theorem wd_1553 : (Cond.fieldLink "EchoFairModel" (34 : Nat) "EchoFairModel" "hasApplied" "[Z") ∈ ALL := all_t7 (i := 113) rfl rfl
theorem wd_1554 : (Cond.fieldLink "EchoFairModel" (122 : Nat) "EchoFairModel" "queueFrom" "I") ∈ ALL := all_t7 (i := 114) rfl rfl
theorem wd_1555 : (Cond.fieldLink "EchoFairModel" (125 : Nat) "EchoFairModel" "queueMany" "I") ∈ ALL := all_t7 (i := 115) rfl rfl
theorem wd_1556 : (Cond.fieldLink "EchoFairModel" (201 : Nat) "EchoFairModel" "answer" "I") ∈ ALL := all_t7 (i := 116) rfl rfl
theorem wd_1557 : (Cond.fieldLink "EchoFairModel" (38 : Nat) "EchoFairModel" "buffer" "[I") ∈ ALL := all_t7 (i := 117) rfl rfl
theorem wd_1558 : (Cond.fieldLink "EchoFairModel" (63 : Nat) "EchoFairModel" "length" "I") ∈ ALL := all_t7 (i := 118) rfl rfl
theorem wd_1559 : (Cond.fieldLink "EchoFairModel" (217 : Nat) "EchoFairModel" "at" "I") ∈ ALL := all_t7 (i := 119) rfl rfl
theorem wd_1560 : (Cond.fieldLink "EchoFairModel" (223 : Nat) "EchoFairModel" "begin" "I") ∈ ALL := all_t7 (i := 120) rfl rfl
theorem wd_1561 : (Cond.fieldLink "EchoFairModel" (226 : Nat) "EchoFairModel" "wordLong" "I") ∈ ALL := all_t7 (i := 121) rfl rfl
theorem wd_1562 : (Cond.fieldLink "EchoFairModel" (233 : Nat) "EchoFairModel" "error" "I") ∈ ALL := all_t7 (i := 122) rfl rfl
theorem wd_1563 : (Cond.fieldLink "EchoFairModel" (236 : Nat) "EchoFairModel" "errorAt" "I") ∈ ALL := all_t7 (i := 123) rfl rfl
theorem wd_1564 : (Cond.fieldLink "EchoFairModel" (274 : Nat) "EchoFairModel" "toldError" "I") ∈ ALL := all_t7 (i := 124) rfl rfl
theorem wd_1565 : (Cond.fieldLink "EchoFairModel" (41 : Nat) "EchoFairModel" "toldAt" "I") ∈ ALL := all_t7 (i := 125) rfl rfl
theorem wd_1566 : (Cond.fieldLink "EchoFairModel" (45 : Nat) "EchoFairModel" "told" "[I") ∈ ALL := all_t7 (i := 126) rfl rfl
theorem wd_1567 : (Cond.fieldLink "EchoFairModel" (349 : Nat) "EchoFairModel" "toldMany" "I") ∈ ALL := all_t7 (i := 127) rfl rfl
theorem wd_1568 : (Cond.fieldLink "EchoFairModel" (48 : Nat) "EchoFairModel" "output" "[I") ∈ ALL := all_t7 (i := 128) rfl rfl
theorem wd_1569 : (Cond.fieldLink "EchoFairModel" (467 : Nat) "EchoFairModel" "outputLong" "I") ∈ ALL := all_t7 (i := 129) rfl rfl
theorem wd_1570 : (Cond.laysFinal "EchoFairModel" "EchoFairModel" "s" "[I") ∈ ALL := all_t7 (i := 130) rfl rfl
theorem wd_1572 : (Cond.laysFinal "EchoFairModel" "EchoFairModel" "saved" "[I") ∈ ALL := all_t7 (i := 132) rfl rfl
theorem wd_1574 : (Cond.laysFinal "EchoFairModel" "EchoFairModel" "held" "[I") ∈ ALL := all_t7 (i := 134) rfl rfl
theorem wd_1576 : (Cond.laysFinal "EchoFairModel" "EchoFairModel" "aside" "[I") ∈ ALL := all_t7 (i := 136) rfl rfl
theorem wd_1578 : (Cond.laysFinal "EchoFairModel" "EchoFairModel" "past" "[I") ∈ ALL := all_t7 (i := 138) rfl rfl
theorem wd_1580 : (Cond.lays "EchoFairModel" "EchoFairModel" "pastMany" "I") ∈ ALL := all_t7 (i := 140) rfl rfl
theorem wd_1582 : (Cond.lays "EchoFairModel" "EchoFairModel" "thrown" "I") ∈ ALL := all_t7 (i := 142) rfl rfl
theorem wd_1584 : (Cond.lays "EchoFairModel" "EchoFairModel" "isSaved" "Z") ∈ ALL := all_t7 (i := 144) rfl rfl
theorem wd_1586 : (Cond.laysFinal "EchoFairModel" "EchoFairModel" "queue" "[I") ∈ ALL := all_t7 (i := 146) rfl rfl
theorem wd_1588 : (Cond.laysFinal "EchoFairModel" "EchoFairModel" "kept" "[I") ∈ ALL := all_t7 (i := 148) rfl rfl
theorem wd_1590 : (Cond.laysFinal "EchoFairModel" "EchoFairModel" "keptMany" "[I") ∈ ALL := all_t7 (i := 150) rfl rfl
theorem wd_1592 : (Cond.laysFinal "EchoFairModel" "EchoFairModel" "hasApplied" "[Z") ∈ ALL := all_t7 (i := 152) rfl rfl
theorem wd_1594 : (Cond.lays "EchoFairModel" "EchoFairModel" "queueFrom" "I") ∈ ALL := all_t7 (i := 154) rfl rfl
theorem wd_1596 : (Cond.lays "EchoFairModel" "EchoFairModel" "queueMany" "I") ∈ ALL := all_t7 (i := 156) rfl rfl
theorem wd_1598 : (Cond.lays "EchoFairModel" "EchoFairModel" "answer" "I") ∈ ALL := all_t7 (i := 158) rfl rfl
theorem wd_1600 : (Cond.laysFinal "EchoFairModel" "EchoFairModel" "buffer" "[I") ∈ ALL := all_t7 (i := 160) rfl rfl
theorem wd_1602 : (Cond.lays "EchoFairModel" "EchoFairModel" "length" "I") ∈ ALL := all_t7 (i := 162) rfl rfl
theorem wd_1604 : (Cond.lays "EchoFairModel" "EchoFairModel" "at" "I") ∈ ALL := all_t7 (i := 164) rfl rfl
theorem wd_1606 : (Cond.lays "EchoFairModel" "EchoFairModel" "begin" "I") ∈ ALL := all_t7 (i := 166) rfl rfl
theorem wd_1608 : (Cond.lays "EchoFairModel" "EchoFairModel" "wordLong" "I") ∈ ALL := all_t7 (i := 168) rfl rfl
theorem wd_1610 : (Cond.lays "EchoFairModel" "EchoFairModel" "error" "I") ∈ ALL := all_t7 (i := 170) rfl rfl
theorem wd_1612 : (Cond.lays "EchoFairModel" "EchoFairModel" "errorAt" "I") ∈ ALL := all_t7 (i := 172) rfl rfl
theorem wd_1614 : (Cond.lays "EchoFairModel" "EchoFairModel" "toldError" "I") ∈ ALL := all_t7 (i := 174) rfl rfl
theorem wd_1616 : (Cond.lays "EchoFairModel" "EchoFairModel" "toldAt" "I") ∈ ALL := all_t7 (i := 176) rfl rfl
theorem wd_1618 : (Cond.laysFinal "EchoFairModel" "EchoFairModel" "told" "[I") ∈ ALL := all_t7 (i := 178) rfl rfl
theorem wd_1620 : (Cond.lays "EchoFairModel" "EchoFairModel" "toldMany" "I") ∈ ALL := all_t7 (i := 180) rfl rfl
theorem wd_1622 : (Cond.laysFinal "EchoFairModel" "EchoFairModel" "output" "[I") ∈ ALL := all_t7 (i := 182) rfl rfl
theorem wd_1624 : (Cond.lays "EchoFairModel" "EchoFairModel" "outputLong" "I") ∈ ALL := all_t7 (i := 184) rfl rfl
theorem wd_1627 : (Cond.arrayClass ClassFile.FieldType.boolean) ∈ ALL := all_t7 (i := 187) rfl rfl
theorem wd_1629 : (Cond.instanceMethod ({ cls := "EchoFairModel", name := "append", desc := "(IIIII)I" } : MethodName)) ∈ ALL := all_t7 (i := 189) rfl rfl
theorem wd_1630 : (Cond.selects "EchoFairModel" ({ cls := "EchoFairModel", name := "append", desc := "(IIIII)I" } : MethodName) ({ cls := "EchoFairModel", name := "append", desc := "(IIIII)I" } : MethodName)) ∈ ALL := all_t7 (i := 190) rfl rfl
theorem wd_1631 : (Cond.code ({ cls := "EchoFairModel", name := "append", desc := "(IIIII)I" } : MethodName) prog_13_method_55_code (6 : Nat) (Option.some ClassFile.FieldType.int)) ∈ ALL := all_t7 (i := 191) rfl rfl
theorem wd_1632 : (Cond.methodLink "EchoFairModel" (214 : Nat) ({ cls := "EchoFairModel", name := "four", desc := "(I)V" } : MethodName)) ∈ ALL := all_t7 (i := 192) rfl rfl
theorem wd_1634 : (Cond.instanceMethod ({ cls := "EchoFairModel", name := "four", desc := "(I)V" } : MethodName)) ∈ ALL := all_t7 (i := 194) rfl rfl
theorem wd_1635 : (Cond.code ({ cls := "EchoFairModel", name := "four", desc := "(I)V" } : MethodName) prog_13_method_54_code (3 : Nat) (Option.none : Option ClassFile.FieldType)) ∈ ALL := all_t7 (i := 195) rfl rfl
theorem wd_1637 : (Cond.instanceMethod ({ cls := "EchoFairModel", name := "truncate", desc := "(I)I" } : MethodName)) ∈ ALL := all_t7 (i := 197) rfl rfl
theorem wd_1638 : (Cond.selects "EchoFairModel" ({ cls := "EchoFairModel", name := "truncate", desc := "(I)I" } : MethodName) ({ cls := "EchoFairModel", name := "truncate", desc := "(I)I" } : MethodName)) ∈ ALL := all_t7 (i := 198) rfl rfl
theorem wd_1639 : (Cond.code ({ cls := "EchoFairModel", name := "truncate", desc := "(I)I" } : MethodName) prog_13_method_56_code (2 : Nat) (Option.some ClassFile.FieldType.int)) ∈ ALL := all_t7 (i := 199) rfl rfl
theorem wd_1641 : (Cond.instanceMethod ({ cls := "EchoFairModel", name := "errorCode", desc := "()I" } : MethodName)) ∈ ALL := all_t7 (i := 201) rfl rfl
theorem wd_1642 : (Cond.selects "EchoFairModel" ({ cls := "EchoFairModel", name := "errorCode", desc := "()I" } : MethodName) ({ cls := "EchoFairModel", name := "errorCode", desc := "()I" } : MethodName)) ∈ ALL := all_t7 (i := 202) rfl rfl
theorem wd_1643 : (Cond.code ({ cls := "EchoFairModel", name := "errorCode", desc := "()I" } : MethodName) prog_13_method_74_code (1 : Nat) (Option.some ClassFile.FieldType.int)) ∈ ALL := all_t7 (i := 203) rfl rfl
theorem wd_1645 : (Cond.instanceMethod ({ cls := "EchoFairModel", name := "errorPosition", desc := "()I" } : MethodName)) ∈ ALL := all_t7 (i := 205) rfl rfl
theorem wd_1646 : (Cond.selects "EchoFairModel" ({ cls := "EchoFairModel", name := "errorPosition", desc := "()I" } : MethodName) ({ cls := "EchoFairModel", name := "errorPosition", desc := "()I" } : MethodName)) ∈ ALL := all_t7 (i := 206) rfl rfl
theorem wd_1647 : (Cond.code ({ cls := "EchoFairModel", name := "errorPosition", desc := "()I" } : MethodName) prog_13_method_75_code (1 : Nat) (Option.some ClassFile.FieldType.int)) ∈ ALL := all_t7 (i := 207) rfl rfl
theorem wd_1650 : (Cond.instanceMethod ({ cls := "EchoFairModel", name := "executeCommands", desc := "()I" } : MethodName)) ∈ ALL := all_t7 (i := 210) rfl rfl
theorem wd_1651 : (Cond.selects "EchoFairModel" ({ cls := "EchoFairModel", name := "executeCommands", desc := "()I" } : MethodName) ({ cls := "EchoFairModel", name := "executeCommands", desc := "()I" } : MethodName)) ∈ ALL := all_t7 (i := 211) rfl rfl
theorem wd_1652 : (Cond.code ({ cls := "EchoFairModel", name := "executeCommands", desc := "()I" } : MethodName) prog_13_method_88_code (2 : Nat) (Option.some ClassFile.FieldType.int)) ∈ ALL := all_t7 (i := 212) rfl rfl
theorem wd_1653 : (Cond.methodLink "EchoFairModel" (376 : Nat) ({ cls := "EchoFairModel", name := "readsOne", desc := "()V" } : MethodName)) ∈ ALL := all_t7 (i := 213) rfl rfl
theorem wd_1655 : (Cond.instanceMethod ({ cls := "EchoFairModel", name := "readsOne", desc := "()V" } : MethodName)) ∈ ALL := all_t7 (i := 215) rfl rfl
theorem wd_1656 : (Cond.code ({ cls := "EchoFairModel", name := "readsOne", desc := "()V" } : MethodName) prog_13_method_85_code (2 : Nat) (Option.none : Option ClassFile.FieldType)) ∈ ALL := all_t7 (i := 216) rfl rfl
theorem wd_1657 : (Cond.methodLink "EchoFairModel" (346 : Nat) ({ cls := "EchoFairModel", name := "commandHere", desc := "()I" } : MethodName)) ∈ ALL := all_t7 (i := 217) rfl rfl
theorem wd_1659 : (Cond.instanceMethod ({ cls := "EchoFairModel", name := "commandHere", desc := "()I" } : MethodName)) ∈ ALL := all_t7 (i := 219) rfl rfl
theorem wd_1660 : (Cond.code ({ cls := "EchoFairModel", name := "commandHere", desc := "()I" } : MethodName) prog_13_method_83_code (1 : Nat) (Option.some ClassFile.FieldType.int)) ∈ ALL := all_t7 (i := 220) rfl rfl
theorem wd_1663 : (Cond.methodLink "EchoFairModel" (343 : Nat) ({ cls := "EchoFairModel", name := "otherCommand", desc := "()I" } : MethodName)) ∈ ALL := all_t7 (i := 223) rfl rfl
theorem wd_1665 : (Cond.instanceMethod ({ cls := "EchoFairModel", name := "otherCommand", desc := "()I" } : MethodName)) ∈ ALL := all_t7 (i := 225) rfl rfl
theorem wd_1666 : (Cond.code ({ cls := "EchoFairModel", name := "otherCommand", desc := "()I" } : MethodName) prog_13_method_82_code (1 : Nat) (Option.some ClassFile.FieldType.int)) ∈ ALL := all_t7 (i := 226) rfl rfl
theorem wd_1671 : (Cond.methodLink "EchoFairModel" (352 : Nat) ({ cls := "EchoFairModel", name := "partsOf", desc := "(II)V" } : MethodName)) ∈ ALL := all_t7 (i := 231) rfl rfl
theorem wd_1673 : (Cond.instanceMethod ({ cls := "EchoFairModel", name := "partsOf", desc := "(II)V" } : MethodName)) ∈ ALL := all_t7 (i := 233) rfl rfl
theorem wd_1674 : (Cond.code ({ cls := "EchoFairModel", name := "partsOf", desc := "(II)V" } : MethodName) prog_13_method_84_code (3 : Nat) (Option.none : Option ClassFile.FieldType)) ∈ ALL := all_t7 (i := 234) rfl rfl
theorem wd_1675 : (Cond.methodLink "EchoFairModel" (379 : Nat) ({ cls := "EchoFairModel", name := "keeps", desc := "([I)V" } : MethodName)) ∈ ALL := all_t7 (i := 235) rfl rfl
theorem wd_1677 : (Cond.instanceMethod ({ cls := "EchoFairModel", name := "keeps", desc := "([I)V" } : MethodName)) ∈ ALL := all_t7 (i := 237) rfl rfl
theorem wd_1678 : (Cond.code ({ cls := "EchoFairModel", name := "keeps", desc := "([I)V" } : MethodName) prog_13_method_87_code (3 : Nat) (Option.none : Option ClassFile.FieldType)) ∈ ALL := all_t7 (i := 238) rfl rfl
theorem wd_1679 : (Cond.methodLink "EchoFairModel" (383 : Nat) ({ cls := "EchoFairModel", name := "doesOne", desc := "(I)Z" } : MethodName)) ∈ ALL := all_t7 (i := 239) rfl rfl
theorem wd_1681 : (Cond.instanceMethod ({ cls := "EchoFairModel", name := "doesOne", desc := "(I)Z" } : MethodName)) ∈ ALL := all_t8 (i := 1) rfl rfl
theorem wd_1682 : (Cond.code ({ cls := "EchoFairModel", name := "doesOne", desc := "(I)Z" } : MethodName) prog_13_method_86_code (4 : Nat) (Option.some ClassFile.FieldType.boolean)) ∈ ALL := all_t8 (i := 2) rfl rfl
theorem wd_1683 : (Cond.methodLink "EchoFairModel" (355 : Nat) ({ cls := "EchoFairModel", name := "passNow", desc := "(I)Z" } : MethodName)) ∈ ALL := all_t8 (i := 3) rfl rfl
theorem wd_1685 : (Cond.instanceMethod ({ cls := "EchoFairModel", name := "passNow", desc := "(I)Z" } : MethodName)) ∈ ALL := all_t8 (i := 5) rfl rfl
theorem wd_1686 : (Cond.code ({ cls := "EchoFairModel", name := "passNow", desc := "(I)Z" } : MethodName) prog_13_method_45_code (3 : Nat) (Option.some ClassFile.FieldType.boolean)) ∈ ALL := all_t8 (i := 6) rfl rfl
theorem wd_1687 : (Cond.methodLink "EchoFairModel" (195 : Nat) ({ cls := "EchoFairModel", name := "allLeft", desc := "()I" } : MethodName)) ∈ ALL := all_t8 (i := 7) rfl rfl
theorem wd_1689 : (Cond.instanceMethod ({ cls := "EchoFairModel", name := "allLeft", desc := "()I" } : MethodName)) ∈ ALL := all_t8 (i := 9) rfl rfl
theorem wd_1690 : (Cond.code ({ cls := "EchoFairModel", name := "allLeft", desc := "()I" } : MethodName) prog_13_method_44_code (3 : Nat) (Option.some ClassFile.FieldType.int)) ∈ ALL := all_t8 (i := 10) rfl rfl
theorem wd_1691 : (Cond.methodLink "EchoFairModel" (86 : Nat) ({ cls := "EchoFairModel", name := "of", desc := "(II)I" } : MethodName)) ∈ ALL := all_t8 (i := 11) rfl rfl
theorem wd_1693 : (Cond.instanceMethod ({ cls := "EchoFairModel", name := "of", desc := "(II)I" } : MethodName)) ∈ ALL := all_t8 (i := 13) rfl rfl
theorem wd_1694 : (Cond.code ({ cls := "EchoFairModel", name := "of", desc := "(II)I" } : MethodName) prog_13_method_10_code (3 : Nat) (Option.some ClassFile.FieldType.int)) ∈ ALL := all_t8 (i := 14) rfl rfl
theorem wd_1695 : (Cond.methodLink "EchoFairModel" (198 : Nat) ({ cls := "EchoFairModel", name := "goBy", desc := "(I)V" } : MethodName)) ∈ ALL := all_t8 (i := 15) rfl rfl
theorem wd_1697 : (Cond.instanceMethod ({ cls := "EchoFairModel", name := "goBy", desc := "(I)V" } : MethodName)) ∈ ALL := all_t8 (i := 17) rfl rfl
theorem wd_1698 : (Cond.code ({ cls := "EchoFairModel", name := "goBy", desc := "(I)V" } : MethodName) prog_13_method_43_code (3 : Nat) (Option.none : Option ClassFile.FieldType)) ∈ ALL := all_t8 (i := 18) rfl rfl
theorem wd_1699 : (Cond.methodLink "EchoFairModel" (192 : Nat) ({ cls := "EchoFairModel", name := "dayOnce", desc := "()V" } : MethodName)) ∈ ALL := all_t8 (i := 19) rfl rfl
theorem wd_1701 : (Cond.instanceMethod ({ cls := "EchoFairModel", name := "dayOnce", desc := "()V" } : MethodName)) ∈ ALL := all_t8 (i := 21) rfl rfl
theorem wd_1702 : (Cond.code ({ cls := "EchoFairModel", name := "dayOnce", desc := "()V" } : MethodName) prog_13_method_42_code (3 : Nat) (Option.none : Option ClassFile.FieldType)) ∈ ALL := all_t8 (i := 22) rfl rfl
theorem wd_1703 : (Cond.methodLink "EchoFairModel" (180 : Nat) ({ cls := "EchoFairModel", name := "beginsSeason", desc := "()V" } : MethodName)) ∈ ALL := all_t8 (i := 23) rfl rfl
theorem wd_1705 : (Cond.instanceMethod ({ cls := "EchoFairModel", name := "beginsSeason", desc := "()V" } : MethodName)) ∈ ALL := all_t8 (i := 25) rfl rfl
theorem wd_1706 : (Cond.code ({ cls := "EchoFairModel", name := "beginsSeason", desc := "()V" } : MethodName) prog_13_method_38_code (3 : Nat) (Option.none : Option ClassFile.FieldType)) ∈ ALL := all_t8 (i := 26) rfl rfl
theorem wd_1707 : (Cond.methodLink "EchoFairModel" (149 : Nat) ({ cls := "EchoFairModel", name := "hasContract", desc := "(I)Z" } : MethodName)) ∈ ALL := all_t8 (i := 27) rfl rfl
theorem wd_1709 : (Cond.instanceMethod ({ cls := "EchoFairModel", name := "hasContract", desc := "(I)Z" } : MethodName)) ∈ ALL := all_t8 (i := 29) rfl rfl
theorem wd_1710 : (Cond.code ({ cls := "EchoFairModel", name := "hasContract", desc := "(I)Z" } : MethodName) prog_13_method_19_code (2 : Nat) (Option.some ClassFile.FieldType.boolean)) ∈ ALL := all_t8 (i := 30) rfl rfl
theorem wd_1711 : (Cond.methodLink "EchoFairModel" (171 : Nat) ({ cls := "EchoFairModel", name := "contractEnds", desc := "(I)V" } : MethodName)) ∈ ALL := all_t8 (i := 31) rfl rfl
theorem wd_1713 : (Cond.instanceMethod ({ cls := "EchoFairModel", name := "contractEnds", desc := "(I)V" } : MethodName)) ∈ ALL := all_t8 (i := 33) rfl rfl
theorem wd_1714 : (Cond.code ({ cls := "EchoFairModel", name := "contractEnds", desc := "(I)V" } : MethodName) prog_13_method_29_code (6 : Nat) (Option.none : Option ClassFile.FieldType)) ∈ ALL := all_t8 (i := 34) rfl rfl
theorem wd_1715 : (Cond.methodLink "EchoFairModel" (119 : Nat) ({ cls := "EchoFairModel", name := "employer", desc := "(I)I" } : MethodName)) ∈ ALL := all_t8 (i := 35) rfl rfl
theorem wd_1717 : (Cond.instanceMethod ({ cls := "EchoFairModel", name := "employer", desc := "(I)I" } : MethodName)) ∈ ALL := all_t8 (i := 37) rfl rfl
theorem wd_1718 : (Cond.code ({ cls := "EchoFairModel", name := "employer", desc := "(I)I" } : MethodName) prog_13_method_18_code (2 : Nat) (Option.some ClassFile.FieldType.int)) ∈ ALL := all_t8 (i := 38) rfl rfl
theorem wd_1719 : (Cond.methodLink "EchoFairModel" (90 : Nat) ({ cls := "EchoFairModel", name := "ofValley", desc := "(II)I" } : MethodName)) ∈ ALL := all_t8 (i := 39) rfl rfl
theorem wd_1721 : (Cond.instanceMethod ({ cls := "EchoFairModel", name := "ofValley", desc := "(II)I" } : MethodName)) ∈ ALL := all_t8 (i := 41) rfl rfl
theorem wd_1722 : (Cond.code ({ cls := "EchoFairModel", name := "ofValley", desc := "(II)I" } : MethodName) prog_13_method_12_code (3 : Nat) (Option.some ClassFile.FieldType.int)) ∈ ALL := all_t8 (i := 42) rfl rfl
theorem wd_1723 : (Cond.methodLink "EchoFairModel" (174 : Nat) ({ cls := "EchoFairModel", name := "fairNow", desc := "()V" } : MethodName)) ∈ ALL := all_t8 (i := 43) rfl rfl
theorem wd_1725 : (Cond.instanceMethod ({ cls := "EchoFairModel", name := "fairNow", desc := "()V" } : MethodName)) ∈ ALL := all_t8 (i := 45) rfl rfl
theorem wd_1726 : (Cond.code ({ cls := "EchoFairModel", name := "fairNow", desc := "()V" } : MethodName) prog_13_method_37_code (3 : Nat) (Option.none : Option ClassFile.FieldType)) ∈ ALL := all_t8 (i := 46) rfl rfl
theorem wd_1727 : (Cond.methodLink "EchoFairModel" (152 : Nat) ({ cls := "EchoFairModel", name := "startsFair", desc := "()V" } : MethodName)) ∈ ALL := all_t8 (i := 47) rfl rfl
theorem wd_1729 : (Cond.instanceMethod ({ cls := "EchoFairModel", name := "startsFair", desc := "()V" } : MethodName)) ∈ ALL := all_t8 (i := 49) rfl rfl
theorem wd_1730 : (Cond.code ({ cls := "EchoFairModel", name := "startsFair", desc := "()V" } : MethodName) prog_13_method_35_code (2 : Nat) (Option.none : Option ClassFile.FieldType)) ∈ ALL := all_t8 (i := 50) rfl rfl
theorem wd_1731 : (Cond.methodLink "EchoFairModel" (142 : Nat) ({ cls := "EchoFairModel", name := "enqueues", desc := "(I)V" } : MethodName)) ∈ ALL := all_t8 (i := 51) rfl rfl
theorem wd_1733 : (Cond.instanceMethod ({ cls := "EchoFairModel", name := "enqueues", desc := "(I)V" } : MethodName)) ∈ ALL := all_t8 (i := 53) rfl rfl
theorem wd_1734 : (Cond.code ({ cls := "EchoFairModel", name := "enqueues", desc := "(I)V" } : MethodName) prog_13_method_30_code (2 : Nat) (Option.none : Option ClassFile.FieldType)) ∈ ALL := all_t8 (i := 54) rfl rfl
theorem wd_1735 : (Cond.methodLink "EchoFairModel" (155 : Nat) ({ cls := "EchoFairModel", name := "dequeues", desc := "()I" } : MethodName)) ∈ ALL := all_t8 (i := 55) rfl rfl
theorem wd_1737 : (Cond.instanceMethod ({ cls := "EchoFairModel", name := "dequeues", desc := "()I" } : MethodName)) ∈ ALL := all_t8 (i := 57) rfl rfl
theorem wd_1738 : (Cond.code ({ cls := "EchoFairModel", name := "dequeues", desc := "()I" } : MethodName) prog_13_method_31_code (2 : Nat) (Option.some ClassFile.FieldType.int)) ∈ ALL := all_t8 (i := 58) rfl rfl
theorem wd_1739 : (Cond.methodLink "EchoFairModel" (158 : Nat) ({ cls := "EchoFairModel", name := "nextValley", desc := "(I)I" } : MethodName)) ∈ ALL := all_t8 (i := 59) rfl rfl
theorem wd_1741 : (Cond.instanceMethod ({ cls := "EchoFairModel", name := "nextValley", desc := "(I)I" } : MethodName)) ∈ ALL := all_t8 (i := 61) rfl rfl
theorem wd_1742 : (Cond.code ({ cls := "EchoFairModel", name := "nextValley", desc := "(I)I" } : MethodName) prog_13_method_32_code (4 : Nat) (Option.some ClassFile.FieldType.int)) ∈ ALL := all_t8 (i := 62) rfl rfl
theorem wd_1743 : (Cond.methodLink "EchoFairModel" (128 : Nat) ({ cls := "EchoFairModel", name := "isAcceptable", desc := "(II)Z" } : MethodName)) ∈ ALL := all_t8 (i := 63) rfl rfl
theorem wd_1745 : (Cond.instanceMethod ({ cls := "EchoFairModel", name := "isAcceptable", desc := "(II)Z" } : MethodName)) ∈ ALL := all_t8 (i := 65) rfl rfl
theorem wd_1746 : (Cond.code ({ cls := "EchoFairModel", name := "isAcceptable", desc := "(II)Z" } : MethodName) prog_13_method_25_code (3 : Nat) (Option.some ClassFile.FieldType.boolean)) ∈ ALL := all_t8 (i := 66) rfl rfl
theorem wd_1747 : (Cond.methodLink "EchoFairModel" (109 : Nat) ({ cls := "EchoFairModel", name := "reasonOf", desc := "(II)I" } : MethodName)) ∈ ALL := all_t8 (i := 67) rfl rfl
theorem wd_1749 : (Cond.instanceMethod ({ cls := "EchoFairModel", name := "reasonOf", desc := "(II)I" } : MethodName)) ∈ ALL := all_t8 (i := 69) rfl rfl
theorem wd_1750 : (Cond.code ({ cls := "EchoFairModel", name := "reasonOf", desc := "(II)I" } : MethodName) prog_13_method_24_code (3 : Nat) (Option.some ClassFile.FieldType.int)) ∈ ALL := all_t8 (i := 70) rfl rfl
theorem wd_1751 : (Cond.methodLink "EchoFairModel" (106 : Nat) ({ cls := "EchoFairModel", name := "seen", desc := "(II)I" } : MethodName)) ∈ ALL := all_t8 (i := 71) rfl rfl
theorem wd_1753 : (Cond.instanceMethod ({ cls := "EchoFairModel", name := "seen", desc := "(II)I" } : MethodName)) ∈ ALL := all_t8 (i := 73) rfl rfl
theorem wd_1754 : (Cond.code ({ cls := "EchoFairModel", name := "seen", desc := "(II)I" } : MethodName) prog_13_method_23_code (3 : Nat) (Option.some ClassFile.FieldType.int)) ∈ ALL := all_t8 (i := 74) rfl rfl
theorem wd_1755 : (Cond.methodLink "EchoFairModel" (103 : Nat) ({ cls := "EchoFairModel", name := "trueScore", desc := "(II)I" } : MethodName)) ∈ ALL := all_t8 (i := 75) rfl rfl
theorem wd_1757 : (Cond.instanceMethod ({ cls := "EchoFairModel", name := "trueScore", desc := "(II)I" } : MethodName)) ∈ ALL := all_t8 (i := 77) rfl rfl
theorem wd_1758 : (Cond.code ({ cls := "EchoFairModel", name := "trueScore", desc := "(II)I" } : MethodName) prog_13_method_22_code (3 : Nat) (Option.some ClassFile.FieldType.int)) ∈ ALL := all_t8 (i := 78) rfl rfl
theorem wd_1759 : (Cond.methodLink "EchoFairModel" (93 : Nat) ({ cls := "java/lang/Math", name := "abs", desc := "(I)I" } : MethodName)) ∈ ALL := all_t8 (i := 79) rfl rfl
theorem wd_1760 : (Cond.static ({ cls := "java/lang/Math", name := "abs", desc := "(I)I" } : MethodName)) ∈ ALL := all_t8 (i := 80) rfl rfl
theorem wd_1761 : (Cond.code ({ cls := "java/lang/Math", name := "abs", desc := "(I)I" } : MethodName) prog_18_method_59_code (1 : Nat) (Option.some ClassFile.FieldType.int)) ∈ ALL := all_t8 (i := 81) rfl rfl
theorem wd_1762 : (Cond.methodLink "EchoFairModel" (132 : Nat) ({ cls := "EchoFairModel", name := "isBetterValley", desc := "(II)Z" } : MethodName)) ∈ ALL := all_t8 (i := 82) rfl rfl
theorem wd_1764 : (Cond.instanceMethod ({ cls := "EchoFairModel", name := "isBetterValley", desc := "(II)Z" } : MethodName)) ∈ ALL := all_t8 (i := 84) rfl rfl
theorem wd_1765 : (Cond.code ({ cls := "EchoFairModel", name := "isBetterValley", desc := "(II)Z" } : MethodName) prog_13_method_26_code (4 : Nat) (Option.some ClassFile.FieldType.boolean)) ∈ ALL := all_t8 (i := 85) rfl rfl
theorem wd_1766 : (Cond.methodLink "EchoFairModel" (161 : Nat) ({ cls := "EchoFairModel", name := "applies", desc := "(II)V" } : MethodName)) ∈ ALL := all_t8 (i := 86) rfl rfl
theorem wd_1768 : (Cond.instanceMethod ({ cls := "EchoFairModel", name := "applies", desc := "(II)V" } : MethodName)) ∈ ALL := all_t8 (i := 88) rfl rfl
theorem wd_1769 : (Cond.code ({ cls := "EchoFairModel", name := "applies", desc := "(II)V" } : MethodName) prog_13_method_34_code (5 : Nat) (Option.none : Option ClassFile.FieldType)) ∈ ALL := all_t8 (i := 89) rfl rfl
theorem wd_1770 : (Cond.methodLink "EchoFairModel" (139 : Nat) ({ cls := "EchoFairModel", name := "freePosts", desc := "(I)I" } : MethodName)) ∈ ALL := all_t8 (i := 90) rfl rfl
theorem wd_1772 : (Cond.instanceMethod ({ cls := "EchoFairModel", name := "freePosts", desc := "(I)I" } : MethodName)) ∈ ALL := all_t8 (i := 92) rfl rfl
theorem wd_1773 : (Cond.code ({ cls := "EchoFairModel", name := "freePosts", desc := "(I)I" } : MethodName) prog_13_method_20_code (2 : Nat) (Option.some ClassFile.FieldType.int)) ∈ ALL := all_t8 (i := 93) rfl rfl
theorem wd_1774 : (Cond.methodLink "EchoFairModel" (146 : Nat) ({ cls := "EchoFairModel", name := "leastKept", desc := "(I)I" } : MethodName)) ∈ ALL := all_t8 (i := 94) rfl rfl
theorem wd_1776 : (Cond.instanceMethod ({ cls := "EchoFairModel", name := "leastKept", desc := "(I)I" } : MethodName)) ∈ ALL := all_t8 (i := 96) rfl rfl
theorem wd_1777 : (Cond.code ({ cls := "EchoFairModel", name := "leastKept", desc := "(I)I" } : MethodName) prog_13_method_33_code (4 : Nat) (Option.some ClassFile.FieldType.int)) ∈ ALL := all_t8 (i := 97) rfl rfl
theorem wd_1778 : (Cond.methodLink "EchoFairModel" (135 : Nat) ({ cls := "EchoFairModel", name := "isBetterEcho", desc := "(III)Z" } : MethodName)) ∈ ALL := all_t8 (i := 98) rfl rfl
theorem wd_1780 : (Cond.instanceMethod ({ cls := "EchoFairModel", name := "isBetterEcho", desc := "(III)Z" } : MethodName)) ∈ ALL := all_t8 (i := 100) rfl rfl
theorem wd_1781 : (Cond.code ({ cls := "EchoFairModel", name := "isBetterEcho", desc := "(III)Z" } : MethodName) prog_13_method_27_code (5 : Nat) (Option.some ClassFile.FieldType.boolean)) ∈ ALL := all_t8 (i := 101) rfl rfl
theorem wd_1782 : (Cond.methodLink "EchoFairModel" (165 : Nat) ({ cls := "EchoFairModel", name := "isKept", desc := "(II)Z" } : MethodName)) ∈ ALL := all_t8 (i := 102) rfl rfl
theorem wd_1784 : (Cond.instanceMethod ({ cls := "EchoFairModel", name := "isKept", desc := "(II)Z" } : MethodName)) ∈ ALL := all_t8 (i := 104) rfl rfl
theorem wd_1785 : (Cond.code ({ cls := "EchoFairModel", name := "isKept", desc := "(II)Z" } : MethodName) prog_13_method_36_code (4 : Nat) (Option.some ClassFile.FieldType.boolean)) ∈ ALL := all_t8 (i := 105) rfl rfl
theorem wd_1786 : (Cond.methodLink "EchoFairModel" (168 : Nat) ({ cls := "EchoFairModel", name := "contractComes", desc := "(II)V" } : MethodName)) ∈ ALL := all_t8 (i := 106) rfl rfl
theorem wd_1788 : (Cond.instanceMethod ({ cls := "EchoFairModel", name := "contractComes", desc := "(II)V" } : MethodName)) ∈ ALL := all_t8 (i := 108) rfl rfl
theorem wd_1789 : (Cond.code ({ cls := "EchoFairModel", name := "contractComes", desc := "(II)V" } : MethodName) prog_13_method_28_code (4 : Nat) (Option.none : Option ClassFile.FieldType)) ∈ ALL := all_t8 (i := 109) rfl rfl
theorem wd_1790 : (Cond.methodLink "EchoFairModel" (183 : Nat) ({ cls := "EchoFairModel", name := "earns", desc := "(I)V" } : MethodName)) ∈ ALL := all_t8 (i := 110) rfl rfl
theorem wd_1792 : (Cond.instanceMethod ({ cls := "EchoFairModel", name := "earns", desc := "(I)V" } : MethodName)) ∈ ALL := all_t8 (i := 112) rfl rfl
theorem wd_1793 : (Cond.code ({ cls := "EchoFairModel", name := "earns", desc := "(I)V" } : MethodName) prog_13_method_39_code (5 : Nat) (Option.none : Option ClassFile.FieldType)) ∈ ALL := all_t8 (i := 113) rfl rfl
theorem wd_1794 : (Cond.methodLink "EchoFairModel" (186 : Nat) ({ cls := "EchoFairModel", name := "pays", desc := "(II)V" } : MethodName)) ∈ ALL := all_t8 (i := 114) rfl rfl
theorem wd_1796 : (Cond.instanceMethod ({ cls := "EchoFairModel", name := "pays", desc := "(II)V" } : MethodName)) ∈ ALL := all_t8 (i := 116) rfl rfl
theorem wd_1797 : (Cond.code ({ cls := "EchoFairModel", name := "pays", desc := "(II)V" } : MethodName) prog_13_method_40_code (4 : Nat) (Option.none : Option ClassFile.FieldType)) ∈ ALL := all_t8 (i := 117) rfl rfl
theorem wd_1798 : (Cond.methodLink "EchoFairModel" (189 : Nat) ({ cls := "EchoFairModel", name := "mayDesert", desc := "(I)V" } : MethodName)) ∈ ALL := all_t8 (i := 118) rfl rfl
theorem wd_1800 : (Cond.instanceMethod ({ cls := "EchoFairModel", name := "mayDesert", desc := "(I)V" } : MethodName)) ∈ ALL := all_t8 (i := 120) rfl rfl
theorem wd_1801 : (Cond.code ({ cls := "EchoFairModel", name := "mayDesert", desc := "(I)V" } : MethodName) prog_13_method_41_code (3 : Nat) (Option.none : Option ClassFile.FieldType)) ∈ ALL := all_t8 (i := 121) rfl rfl
theorem wd_1802 : (Cond.methodLink "EchoFairModel" (177 : Nat) ({ cls := "EchoFairModel", name := "fogNow", desc := "(I)I" } : MethodName)) ∈ ALL := all_t8 (i := 122) rfl rfl
theorem wd_1804 : (Cond.instanceMethod ({ cls := "EchoFairModel", name := "fogNow", desc := "(I)I" } : MethodName)) ∈ ALL := all_t8 (i := 124) rfl rfl
theorem wd_1805 : (Cond.code ({ cls := "EchoFairModel", name := "fogNow", desc := "(I)I" } : MethodName) prog_13_method_21_code (2 : Nat) (Option.some ClassFile.FieldType.int)) ∈ ALL := all_t8 (i := 125) rfl rfl
theorem wd_1806 : (Cond.methodLink "EchoFairModel" (358 : Nat) ({ cls := "EchoFairModel", name := "holdNow", desc := "()Z" } : MethodName)) ∈ ALL := all_t8 (i := 126) rfl rfl
theorem wd_1808 : (Cond.instanceMethod ({ cls := "EchoFairModel", name := "holdNow", desc := "()Z" } : MethodName)) ∈ ALL := all_t8 (i := 128) rfl rfl
theorem wd_1809 : (Cond.code ({ cls := "EchoFairModel", name := "holdNow", desc := "()Z" } : MethodName) prog_13_method_46_code (2 : Nat) (Option.some ClassFile.FieldType.boolean)) ∈ ALL := all_t8 (i := 129) rfl rfl
theorem wd_1810 : (Cond.methodLink "EchoFairModel" (361 : Nat) ({ cls := "EchoFairModel", name := "testNow", desc := "(II)Z" } : MethodName)) ∈ ALL := all_t8 (i := 130) rfl rfl
theorem wd_1812 : (Cond.instanceMethod ({ cls := "EchoFairModel", name := "testNow", desc := "(II)Z" } : MethodName)) ∈ ALL := all_t8 (i := 132) rfl rfl
theorem wd_1813 : (Cond.code ({ cls := "EchoFairModel", name := "testNow", desc := "(II)Z" } : MethodName) prog_13_method_48_code (3 : Nat) (Option.some ClassFile.FieldType.boolean)) ∈ ALL := all_t8 (i := 133) rfl rfl
theorem wd_1814 : (Cond.methodLink "EchoFairModel" (204 : Nat) ({ cls := "EchoFairModel", name := "canTest", desc := "(II)Z" } : MethodName)) ∈ ALL := all_t8 (i := 134) rfl rfl
theorem wd_1816 : (Cond.instanceMethod ({ cls := "EchoFairModel", name := "canTest", desc := "(II)Z" } : MethodName)) ∈ ALL := all_t8 (i := 136) rfl rfl
theorem wd_1817 : (Cond.code ({ cls := "EchoFairModel", name := "canTest", desc := "(II)Z" } : MethodName) prog_13_method_47_code (3 : Nat) (Option.some ClassFile.FieldType.boolean)) ∈ ALL := all_t8 (i := 137) rfl rfl
theorem wd_1818 : (Cond.methodLink "EchoFairModel" (364 : Nat) ({ cls := "EchoFairModel", name := "dismissNow", desc := "(I)Z" } : MethodName)) ∈ ALL := all_t8 (i := 138) rfl rfl
theorem wd_1820 : (Cond.instanceMethod ({ cls := "EchoFairModel", name := "dismissNow", desc := "(I)Z" } : MethodName)) ∈ ALL := all_t8 (i := 140) rfl rfl
theorem wd_1821 : (Cond.code ({ cls := "EchoFairModel", name := "dismissNow", desc := "(I)Z" } : MethodName) prog_13_method_49_code (2 : Nat) (Option.some ClassFile.FieldType.boolean)) ∈ ALL := all_t8 (i := 141) rfl rfl
theorem wd_1822 : (Cond.methodLink "EchoFairModel" (367 : Nat) ({ cls := "EchoFairModel", name := "wageNow", desc := "(II)Z" } : MethodName)) ∈ ALL := all_t8 (i := 142) rfl rfl
theorem wd_1824 : (Cond.instanceMethod ({ cls := "EchoFairModel", name := "wageNow", desc := "(II)Z" } : MethodName)) ∈ ALL := all_t8 (i := 144) rfl rfl
theorem wd_1825 : (Cond.code ({ cls := "EchoFairModel", name := "wageNow", desc := "(II)Z" } : MethodName) prog_13_method_50_code (3 : Nat) (Option.some ClassFile.FieldType.boolean)) ∈ ALL := all_t8 (i := 145) rfl rfl
theorem wd_1826 : (Cond.methodLink "EchoFairModel" (370 : Nat) ({ cls := "EchoFairModel", name := "fundNow", desc := "(II)Z" } : MethodName)) ∈ ALL := all_t8 (i := 146) rfl rfl
theorem wd_1828 : (Cond.instanceMethod ({ cls := "EchoFairModel", name := "fundNow", desc := "(II)Z" } : MethodName)) ∈ ALL := all_t8 (i := 148) rfl rfl
theorem wd_1829 : (Cond.code ({ cls := "EchoFairModel", name := "fundNow", desc := "(II)Z" } : MethodName) prog_13_method_51_code (3 : Nat) (Option.some ClassFile.FieldType.boolean)) ∈ ALL := all_t8 (i := 149) rfl rfl
theorem wd_1830 : (Cond.methodLink "EchoFairModel" (373 : Nat) ({ cls := "EchoFairModel", name := "trainNow", desc := "(I)Z" } : MethodName)) ∈ ALL := all_t8 (i := 150) rfl rfl
theorem wd_1832 : (Cond.instanceMethod ({ cls := "EchoFairModel", name := "trainNow", desc := "(I)Z" } : MethodName)) ∈ ALL := all_t8 (i := 152) rfl rfl
theorem wd_1833 : (Cond.code ({ cls := "EchoFairModel", name := "trainNow", desc := "(I)Z" } : MethodName) prog_13_method_53_code (3 : Nat) (Option.some ClassFile.FieldType.boolean)) ∈ ALL := all_t8 (i := 153) rfl rfl
theorem wd_1834 : (Cond.methodLink "EchoFairModel" (207 : Nat) ({ cls := "EchoFairModel", name := "canTrain", desc := "(I)Z" } : MethodName)) ∈ ALL := all_t8 (i := 154) rfl rfl
theorem wd_1836 : (Cond.instanceMethod ({ cls := "EchoFairModel", name := "canTrain", desc := "(I)Z" } : MethodName)) ∈ ALL := all_t8 (i := 156) rfl rfl
theorem wd_1837 : (Cond.code ({ cls := "EchoFairModel", name := "canTrain", desc := "(I)Z" } : MethodName) prog_13_method_52_code (2 : Nat) (Option.some ClassFile.FieldType.boolean)) ∈ ALL := all_t8 (i := 157) rfl rfl
theorem wd_1839 : (Cond.instanceMethod ({ cls := "EchoFairModel", name := "echoCount", desc := "()I" } : MethodName)) ∈ ALL := all_t8 (i := 159) rfl rfl
theorem wd_1840 : (Cond.selects "EchoFairModel" ({ cls := "EchoFairModel", name := "echoCount", desc := "()I" } : MethodName) ({ cls := "EchoFairModel", name := "echoCount", desc := "()I" } : MethodName)) ∈ ALL := all_t8 (i := 160) rfl rfl
theorem wd_1841 : (Cond.code ({ cls := "EchoFairModel", name := "echoCount", desc := "()I" } : MethodName) prog_13_method_92_code (1 : Nat) (Option.some ClassFile.FieldType.int)) ∈ ALL := all_t8 (i := 161) rfl rfl
theorem wd_1842 : (Cond.methodLink "EchoFairModel" (386 : Nat) ({ cls := "EchoFairModel", name := "tells", desc := "(I)I" } : MethodName)) ∈ ALL := all_t8 (i := 162) rfl rfl
theorem wd_1844 : (Cond.instanceMethod ({ cls := "EchoFairModel", name := "tells", desc := "(I)I" } : MethodName)) ∈ ALL := all_t8 (i := 164) rfl rfl
theorem wd_1845 : (Cond.code ({ cls := "EchoFairModel", name := "tells", desc := "(I)I" } : MethodName) prog_13_method_89_code (2 : Nat) (Option.some ClassFile.FieldType.int)) ∈ ALL := all_t8 (i := 165) rfl rfl
theorem wd_1847 : (Cond.instanceMethod ({ cls := "EchoFairModel", name := "valleyCount", desc := "()I" } : MethodName)) ∈ ALL := all_t8 (i := 167) rfl rfl
theorem wd_1848 : (Cond.selects "EchoFairModel" ({ cls := "EchoFairModel", name := "valleyCount", desc := "()I" } : MethodName) ({ cls := "EchoFairModel", name := "valleyCount", desc := "()I" } : MethodName)) ∈ ALL := all_t8 (i := 168) rfl rfl
theorem wd_1849 : (Cond.code ({ cls := "EchoFairModel", name := "valleyCount", desc := "()I" } : MethodName) prog_13_method_93_code (1 : Nat) (Option.some ClassFile.FieldType.int)) ∈ ALL := all_t8 (i := 169) rfl rfl
theorem wd_1851 : (Cond.instanceMethod ({ cls := "EchoFairModel", name := "day", desc := "()I" } : MethodName)) ∈ ALL := all_t8 (i := 171) rfl rfl
theorem wd_1852 : (Cond.selects "EchoFairModel" ({ cls := "EchoFairModel", name := "day", desc := "()I" } : MethodName) ({ cls := "EchoFairModel", name := "day", desc := "()I" } : MethodName)) ∈ ALL := all_t8 (i := 172) rfl rfl
theorem wd_1853 : (Cond.code ({ cls := "EchoFairModel", name := "day", desc := "()I" } : MethodName) prog_13_method_94_code (1 : Nat) (Option.some ClassFile.FieldType.int)) ∈ ALL := all_t8 (i := 173) rfl rfl
theorem wd_1855 : (Cond.instanceMethod ({ cls := "EchoFairModel", name := "seasonLength", desc := "()I" } : MethodName)) ∈ ALL := all_t8 (i := 175) rfl rfl
theorem wd_1856 : (Cond.selects "EchoFairModel" ({ cls := "EchoFairModel", name := "seasonLength", desc := "()I" } : MethodName) ({ cls := "EchoFairModel", name := "seasonLength", desc := "()I" } : MethodName)) ∈ ALL := all_t8 (i := 176) rfl rfl
theorem wd_1857 : (Cond.code ({ cls := "EchoFairModel", name := "seasonLength", desc := "()I" } : MethodName) prog_13_method_95_code (1 : Nat) (Option.some ClassFile.FieldType.int)) ∈ ALL := all_t8 (i := 177) rfl rfl
theorem wd_1859 : (Cond.instanceMethod ({ cls := "EchoFairModel", name := "fogOf", desc := "(I)I" } : MethodName)) ∈ ALL := all_t8 (i := 179) rfl rfl
theorem wd_1860 : (Cond.selects "EchoFairModel" ({ cls := "EchoFairModel", name := "fogOf", desc := "(I)I" } : MethodName) ({ cls := "EchoFairModel", name := "fogOf", desc := "(I)I" } : MethodName)) ∈ ALL := all_t8 (i := 180) rfl rfl
theorem wd_1861 : (Cond.code ({ cls := "EchoFairModel", name := "fogOf", desc := "(I)I" } : MethodName) prog_13_method_96_code (2 : Nat) (Option.some ClassFile.FieldType.int)) ∈ ALL := all_t8 (i := 181) rfl rfl
theorem wd_1862 : (Cond.constantLong "EchoFairModel" (389 : Nat) (9999 : Int64)) ∈ ALL := all_t8 (i := 182) rfl rfl
theorem wd_1864 : (Cond.instanceMethod ({ cls := "EchoFairModel", name := "findEcho", desc := "()I" } : MethodName)) ∈ ALL := all_t8 (i := 184) rfl rfl
theorem wd_1865 : (Cond.selects "EchoFairModel" ({ cls := "EchoFairModel", name := "findEcho", desc := "()I" } : MethodName) ({ cls := "EchoFairModel", name := "findEcho", desc := "()I" } : MethodName)) ∈ ALL := all_t8 (i := 185) rfl rfl
theorem wd_1866 : (Cond.code ({ cls := "EchoFairModel", name := "findEcho", desc := "()I" } : MethodName) prog_13_method_98_code (1 : Nat) (Option.some ClassFile.FieldType.int)) ∈ ALL := all_t8 (i := 186) rfl rfl
theorem wd_1867 : (Cond.methodLink "EchoFairModel" (391 : Nat) ({ cls := "EchoFairModel", name := "finds", desc := "(Z)I" } : MethodName)) ∈ ALL := all_t8 (i := 187) rfl rfl
theorem wd_1869 : (Cond.instanceMethod ({ cls := "EchoFairModel", name := "finds", desc := "(Z)I" } : MethodName)) ∈ ALL := all_t8 (i := 189) rfl rfl
theorem wd_1870 : (Cond.code ({ cls := "EchoFairModel", name := "finds", desc := "(Z)I" } : MethodName) prog_13_method_97_code (3 : Nat) (Option.some ClassFile.FieldType.int)) ∈ ALL := all_t8 (i := 190) rfl rfl
theorem wd_1872 : (Cond.instanceMethod ({ cls := "EchoFairModel", name := "findValley", desc := "()I" } : MethodName)) ∈ ALL := all_t8 (i := 192) rfl rfl
theorem wd_1873 : (Cond.selects "EchoFairModel" ({ cls := "EchoFairModel", name := "findValley", desc := "()I" } : MethodName) ({ cls := "EchoFairModel", name := "findValley", desc := "()I" } : MethodName)) ∈ ALL := all_t8 (i := 193) rfl rfl
theorem wd_1874 : (Cond.code ({ cls := "EchoFairModel", name := "findValley", desc := "()I" } : MethodName) prog_13_method_99_code (1 : Nat) (Option.some ClassFile.FieldType.int)) ∈ ALL := all_t8 (i := 194) rfl rfl
theorem wd_1876 : (Cond.instanceMethod ({ cls := "EchoFairModel", name := "delayOf", desc := "(I)I" } : MethodName)) ∈ ALL := all_t8 (i := 196) rfl rfl
theorem wd_1877 : (Cond.selects "EchoFairModel" ({ cls := "EchoFairModel", name := "delayOf", desc := "(I)I" } : MethodName) ({ cls := "EchoFairModel", name := "delayOf", desc := "(I)I" } : MethodName)) ∈ ALL := all_t8 (i := 197) rfl rfl
theorem wd_1878 : (Cond.code ({ cls := "EchoFairModel", name := "delayOf", desc := "(I)I" } : MethodName) prog_13_method_100_code (2 : Nat) (Option.some ClassFile.FieldType.int)) ∈ ALL := all_t8 (i := 198) rfl rfl
theorem wd_1879 : (Cond.methodLink "EchoFairModel" (394 : Nat) ({ cls := "EchoFairModel", name := "tellsEcho", desc := "(II)I" } : MethodName)) ∈ ALL := all_t8 (i := 199) rfl rfl
theorem wd_1881 : (Cond.instanceMethod ({ cls := "EchoFairModel", name := "tellsEcho", desc := "(II)I" } : MethodName)) ∈ ALL := all_t8 (i := 201) rfl rfl
theorem wd_1882 : (Cond.code ({ cls := "EchoFairModel", name := "tellsEcho", desc := "(II)I" } : MethodName) prog_13_method_90_code (3 : Nat) (Option.some ClassFile.FieldType.int)) ∈ ALL := all_t8 (i := 202) rfl rfl
theorem wd_1883 : (Cond.methodLink "EchoFairModel" (83 : Nat) ({ cls := "EchoFairModel", name := "isEcho", desc := "(I)Z" } : MethodName)) ∈ ALL := all_t8 (i := 203) rfl rfl
theorem wd_1885 : (Cond.instanceMethod ({ cls := "EchoFairModel", name := "isEcho", desc := "(I)Z" } : MethodName)) ∈ ALL := all_t8 (i := 205) rfl rfl
theorem wd_1886 : (Cond.code ({ cls := "EchoFairModel", name := "isEcho", desc := "(I)Z" } : MethodName) prog_13_method_15_code (2 : Nat) (Option.some ClassFile.FieldType.boolean)) ∈ ALL := all_t8 (i := 206) rfl rfl
theorem wd_1888 : (Cond.instanceMethod ({ cls := "EchoFairModel", name := "repeatsOf", desc := "(I)I" } : MethodName)) ∈ ALL := all_t8 (i := 208) rfl rfl
theorem wd_1889 : (Cond.selects "EchoFairModel" ({ cls := "EchoFairModel", name := "repeatsOf", desc := "(I)I" } : MethodName) ({ cls := "EchoFairModel", name := "repeatsOf", desc := "(I)I" } : MethodName)) ∈ ALL := all_t8 (i := 209) rfl rfl
theorem wd_1890 : (Cond.code ({ cls := "EchoFairModel", name := "repeatsOf", desc := "(I)I" } : MethodName) prog_13_method_101_code (2 : Nat) (Option.some ClassFile.FieldType.int)) ∈ ALL := all_t8 (i := 210) rfl rfl
theorem wd_1892 : (Cond.instanceMethod ({ cls := "EchoFairModel", name := "reserveWage", desc := "(I)I" } : MethodName)) ∈ ALL := all_t8 (i := 212) rfl rfl
theorem wd_1893 : (Cond.selects "EchoFairModel" ({ cls := "EchoFairModel", name := "reserveWage", desc := "(I)I" } : MethodName) ({ cls := "EchoFairModel", name := "reserveWage", desc := "(I)I" } : MethodName)) ∈ ALL := all_t8 (i := 213) rfl rfl
theorem wd_1894 : (Cond.code ({ cls := "EchoFairModel", name := "reserveWage", desc := "(I)I" } : MethodName) prog_13_method_102_code (2 : Nat) (Option.some ClassFile.FieldType.int)) ∈ ALL := all_t8 (i := 214) rfl rfl
theorem wd_1896 : (Cond.instanceMethod ({ cls := "EchoFairModel", name := "resistanceOf", desc := "(I)I" } : MethodName)) ∈ ALL := all_t8 (i := 216) rfl rfl
theorem wd_1897 : (Cond.selects "EchoFairModel" ({ cls := "EchoFairModel", name := "resistanceOf", desc := "(I)I" } : MethodName) ({ cls := "EchoFairModel", name := "resistanceOf", desc := "(I)I" } : MethodName)) ∈ ALL := all_t8 (i := 217) rfl rfl
theorem wd_1898 : (Cond.code ({ cls := "EchoFairModel", name := "resistanceOf", desc := "(I)I" } : MethodName) prog_13_method_103_code (2 : Nat) (Option.some ClassFile.FieldType.int)) ∈ ALL := all_t8 (i := 218) rfl rfl
theorem wd_1900 : (Cond.instanceMethod ({ cls := "EchoFairModel", name := "savingsOf", desc := "(I)I" } : MethodName)) ∈ ALL := all_t8 (i := 220) rfl rfl
theorem wd_1901 : (Cond.selects "EchoFairModel" ({ cls := "EchoFairModel", name := "savingsOf", desc := "(I)I" } : MethodName) ({ cls := "EchoFairModel", name := "savingsOf", desc := "(I)I" } : MethodName)) ∈ ALL := all_t8 (i := 221) rfl rfl
theorem wd_1902 : (Cond.code ({ cls := "EchoFairModel", name := "savingsOf", desc := "(I)I" } : MethodName) prog_13_method_104_code (2 : Nat) (Option.some ClassFile.FieldType.int)) ∈ ALL := all_t8 (i := 222) rfl rfl
theorem wd_1904 : (Cond.instanceMethod ({ cls := "EchoFairModel", name := "unpaidDays", desc := "(I)I" } : MethodName)) ∈ ALL := all_t8 (i := 224) rfl rfl
theorem wd_1905 : (Cond.selects "EchoFairModel" ({ cls := "EchoFairModel", name := "unpaidDays", desc := "(I)I" } : MethodName) ({ cls := "EchoFairModel", name := "unpaidDays", desc := "(I)I" } : MethodName)) ∈ ALL := all_t8 (i := 225) rfl rfl
theorem wd_1906 : (Cond.code ({ cls := "EchoFairModel", name := "unpaidDays", desc := "(I)I" } : MethodName) prog_13_method_105_code (2 : Nat) (Option.some ClassFile.FieldType.int)) ∈ ALL := all_t8 (i := 226) rfl rfl
theorem wd_1908 : (Cond.instanceMethod ({ cls := "EchoFairModel", name := "employerOf", desc := "(I)I" } : MethodName)) ∈ ALL := all_t8 (i := 228) rfl rfl
theorem wd_1909 : (Cond.selects "EchoFairModel" ({ cls := "EchoFairModel", name := "employerOf", desc := "(I)I" } : MethodName) ({ cls := "EchoFairModel", name := "employerOf", desc := "(I)I" } : MethodName)) ∈ ALL := all_t8 (i := 229) rfl rfl
theorem wd_1910 : (Cond.code ({ cls := "EchoFairModel", name := "employerOf", desc := "(I)I" } : MethodName) prog_13_method_106_code (2 : Nat) (Option.some ClassFile.FieldType.int)) ∈ ALL := all_t8 (i := 230) rfl rfl
theorem wd_1912 : (Cond.instanceMethod ({ cls := "EchoFairModel", name := "widthOf", desc := "(I)I" } : MethodName)) ∈ ALL := all_t8 (i := 232) rfl rfl
theorem wd_1913 : (Cond.selects "EchoFairModel" ({ cls := "EchoFairModel", name := "widthOf", desc := "(I)I" } : MethodName) ({ cls := "EchoFairModel", name := "widthOf", desc := "(I)I" } : MethodName)) ∈ ALL := all_t8 (i := 233) rfl rfl
theorem wd_1914 : (Cond.code ({ cls := "EchoFairModel", name := "widthOf", desc := "(I)I" } : MethodName) prog_13_method_107_code (2 : Nat) (Option.some ClassFile.FieldType.int)) ∈ ALL := all_t8 (i := 234) rfl rfl
theorem wd_1915 : (Cond.methodLink "EchoFairModel" (397 : Nat) ({ cls := "EchoFairModel", name := "tellsValley", desc := "(II)I" } : MethodName)) ∈ ALL := all_t8 (i := 235) rfl rfl
theorem wd_1917 : (Cond.instanceMethod ({ cls := "EchoFairModel", name := "tellsValley", desc := "(II)I" } : MethodName)) ∈ ALL := all_t8 (i := 237) rfl rfl
theorem wd_1918 : (Cond.code ({ cls := "EchoFairModel", name := "tellsValley", desc := "(II)I" } : MethodName) prog_13_method_91_code (3 : Nat) (Option.some ClassFile.FieldType.int)) ∈ ALL := all_t8 (i := 238) rfl rfl
theorem wd_1919 : (Cond.methodLink "EchoFairModel" (79 : Nat) ({ cls := "EchoFairModel", name := "isValley", desc := "(I)Z" } : MethodName)) ∈ ALL := all_t8 (i := 239) rfl rfl
theorem wd_1921 : (Cond.instanceMethod ({ cls := "EchoFairModel", name := "isValley", desc := "(I)Z" } : MethodName)) ∈ ALL := all_t9 (i := 1) rfl rfl
theorem wd_1922 : (Cond.code ({ cls := "EchoFairModel", name := "isValley", desc := "(I)Z" } : MethodName) prog_13_method_16_code (2 : Nat) (Option.some ClassFile.FieldType.boolean)) ∈ ALL := all_t9 (i := 2) rfl rfl
theorem wd_1924 : (Cond.instanceMethod ({ cls := "EchoFairModel", name := "postsOf", desc := "(I)I" } : MethodName)) ∈ ALL := all_t9 (i := 4) rfl rfl
theorem wd_1925 : (Cond.selects "EchoFairModel" ({ cls := "EchoFairModel", name := "postsOf", desc := "(I)I" } : MethodName) ({ cls := "EchoFairModel", name := "postsOf", desc := "(I)I" } : MethodName)) ∈ ALL := all_t9 (i := 5) rfl rfl
theorem wd_1926 : (Cond.code ({ cls := "EchoFairModel", name := "postsOf", desc := "(I)I" } : MethodName) prog_13_method_108_code (2 : Nat) (Option.some ClassFile.FieldType.int)) ∈ ALL := all_t9 (i := 6) rfl rfl
theorem wd_1928 : (Cond.instanceMethod ({ cls := "EchoFairModel", name := "wageOf", desc := "(I)I" } : MethodName)) ∈ ALL := all_t9 (i := 8) rfl rfl
theorem wd_1929 : (Cond.selects "EchoFairModel" ({ cls := "EchoFairModel", name := "wageOf", desc := "(I)I" } : MethodName) ({ cls := "EchoFairModel", name := "wageOf", desc := "(I)I" } : MethodName)) ∈ ALL := all_t9 (i := 9) rfl rfl
theorem wd_1930 : (Cond.code ({ cls := "EchoFairModel", name := "wageOf", desc := "(I)I" } : MethodName) prog_13_method_109_code (2 : Nat) (Option.some ClassFile.FieldType.int)) ∈ ALL := all_t9 (i := 10) rfl rfl
theorem wd_1932 : (Cond.instanceMethod ({ cls := "EchoFairModel", name := "purseOf", desc := "(I)I" } : MethodName)) ∈ ALL := all_t9 (i := 12) rfl rfl
theorem wd_1933 : (Cond.selects "EchoFairModel" ({ cls := "EchoFairModel", name := "purseOf", desc := "(I)I" } : MethodName) ({ cls := "EchoFairModel", name := "purseOf", desc := "(I)I" } : MethodName)) ∈ ALL := all_t9 (i := 13) rfl rfl
theorem wd_1934 : (Cond.code ({ cls := "EchoFairModel", name := "purseOf", desc := "(I)I" } : MethodName) prog_13_method_110_code (2 : Nat) (Option.some ClassFile.FieldType.int)) ∈ ALL := all_t9 (i := 14) rfl rfl
theorem wd_1936 : (Cond.instanceMethod ({ cls := "EchoFairModel", name := "staffCount", desc := "(I)I" } : MethodName)) ∈ ALL := all_t9 (i := 16) rfl rfl
theorem wd_1937 : (Cond.selects "EchoFairModel" ({ cls := "EchoFairModel", name := "staffCount", desc := "(I)I" } : MethodName) ({ cls := "EchoFairModel", name := "staffCount", desc := "(I)I" } : MethodName)) ∈ ALL := all_t9 (i := 17) rfl rfl
theorem wd_1938 : (Cond.code ({ cls := "EchoFairModel", name := "staffCount", desc := "(I)I" } : MethodName) prog_13_method_111_code (2 : Nat) (Option.some ClassFile.FieldType.int)) ∈ ALL := all_t9 (i := 18) rfl rfl
theorem wd_1940 : (Cond.instanceMethod ({ cls := "EchoFairModel", name := "staffMember", desc := "(II)I" } : MethodName)) ∈ ALL := all_t9 (i := 20) rfl rfl
theorem wd_1941 : (Cond.selects "EchoFairModel" ({ cls := "EchoFairModel", name := "staffMember", desc := "(II)I" } : MethodName) ({ cls := "EchoFairModel", name := "staffMember", desc := "(II)I" } : MethodName)) ∈ ALL := all_t9 (i := 21) rfl rfl
theorem wd_1942 : (Cond.code ({ cls := "EchoFairModel", name := "staffMember", desc := "(II)I" } : MethodName) prog_13_method_112_code (3 : Nat) (Option.some ClassFile.FieldType.int)) ∈ ALL := all_t9 (i := 22) rfl rfl
theorem wd_1944 : (Cond.instanceMethod ({ cls := "EchoFairModel", name := "isTested", desc := "(II)Z" } : MethodName)) ∈ ALL := all_t9 (i := 24) rfl rfl
theorem wd_1945 : (Cond.selects "EchoFairModel" ({ cls := "EchoFairModel", name := "isTested", desc := "(II)Z" } : MethodName) ({ cls := "EchoFairModel", name := "isTested", desc := "(II)Z" } : MethodName)) ∈ ALL := all_t9 (i := 25) rfl rfl
theorem wd_1946 : (Cond.code ({ cls := "EchoFairModel", name := "isTested", desc := "(II)Z" } : MethodName) prog_13_method_113_code (3 : Nat) (Option.some ClassFile.FieldType.boolean)) ∈ ALL := all_t9 (i := 26) rfl rfl
theorem wd_1947 : (Cond.methodLink "EchoFairModel" (400 : Nat) ({ cls := "EchoFairModel", name := "areBoth", desc := "(II)Z" } : MethodName)) ∈ ALL := all_t9 (i := 27) rfl rfl
theorem wd_1949 : (Cond.instanceMethod ({ cls := "EchoFairModel", name := "areBoth", desc := "(II)Z" } : MethodName)) ∈ ALL := all_t9 (i := 29) rfl rfl
theorem wd_1950 : (Cond.code ({ cls := "EchoFairModel", name := "areBoth", desc := "(II)Z" } : MethodName) prog_13_method_17_code (3 : Nat) (Option.some ClassFile.FieldType.boolean)) ∈ ALL := all_t9 (i := 30) rfl rfl
theorem wd_1952 : (Cond.instanceMethod ({ cls := "EchoFairModel", name := "seenScore", desc := "(II)I" } : MethodName)) ∈ ALL := all_t9 (i := 32) rfl rfl
theorem wd_1953 : (Cond.selects "EchoFairModel" ({ cls := "EchoFairModel", name := "seenScore", desc := "(II)I" } : MethodName) ({ cls := "EchoFairModel", name := "seenScore", desc := "(II)I" } : MethodName)) ∈ ALL := all_t9 (i := 33) rfl rfl
theorem wd_1954 : (Cond.code ({ cls := "EchoFairModel", name := "seenScore", desc := "(II)I" } : MethodName) prog_13_method_114_code (3 : Nat) (Option.some ClassFile.FieldType.int)) ∈ ALL := all_t9 (i := 34) rfl rfl
theorem wd_1956 : (Cond.instanceMethod ({ cls := "EchoFairModel", name := "pairReason", desc := "(II)I" } : MethodName)) ∈ ALL := all_t9 (i := 36) rfl rfl
theorem wd_1957 : (Cond.selects "EchoFairModel" ({ cls := "EchoFairModel", name := "pairReason", desc := "(II)I" } : MethodName) ({ cls := "EchoFairModel", name := "pairReason", desc := "(II)I" } : MethodName)) ∈ ALL := all_t9 (i := 37) rfl rfl
theorem wd_1958 : (Cond.code ({ cls := "EchoFairModel", name := "pairReason", desc := "(II)I" } : MethodName) prog_13_method_115_code (3 : Nat) (Option.some ClassFile.FieldType.int)) ∈ ALL := all_t9 (i := 38) rfl rfl
theorem wd_1960 : (Cond.instanceMethod ({ cls := "EchoFairModel", name := "preferredValley", desc := "(II)I" } : MethodName)) ∈ ALL := all_t9 (i := 40) rfl rfl
theorem wd_1961 : (Cond.selects "EchoFairModel" ({ cls := "EchoFairModel", name := "preferredValley", desc := "(II)I" } : MethodName) ({ cls := "EchoFairModel", name := "preferredValley", desc := "(II)I" } : MethodName)) ∈ ALL := all_t9 (i := 41) rfl rfl
theorem wd_1962 : (Cond.code ({ cls := "EchoFairModel", name := "preferredValley", desc := "(II)I" } : MethodName) prog_13_method_117_code (3 : Nat) (Option.some ClassFile.FieldType.int)) ∈ ALL := all_t9 (i := 42) rfl rfl
theorem wd_1963 : (Cond.methodLink "EchoFairModel" (406 : Nat) ({ cls := "EchoFairModel", name := "valleyAt", desc := "(II)I" } : MethodName)) ∈ ALL := all_t9 (i := 43) rfl rfl
theorem wd_1965 : (Cond.instanceMethod ({ cls := "EchoFairModel", name := "valleyAt", desc := "(II)I" } : MethodName)) ∈ ALL := all_t9 (i := 45) rfl rfl
theorem wd_1966 : (Cond.code ({ cls := "EchoFairModel", name := "valleyAt", desc := "(II)I" } : MethodName) prog_13_method_116_code (6 : Nat) (Option.some ClassFile.FieldType.int)) ∈ ALL := all_t9 (i := 46) rfl rfl
theorem wd_1967 : (Cond.methodLink "EchoFairModel" (403 : Nat) ({ cls := "EchoFairModel", name := "truth", desc := "(Z)I" } : MethodName)) ∈ ALL := all_t9 (i := 47) rfl rfl
theorem wd_1968 : (Cond.static ({ cls := "EchoFairModel", name := "truth", desc := "(Z)I" } : MethodName)) ∈ ALL := all_t9 (i := 48) rfl rfl
theorem wd_1969 : (Cond.code ({ cls := "EchoFairModel", name := "truth", desc := "(Z)I" } : MethodName) prog_13_method_4_code (1 : Nat) (Option.some ClassFile.FieldType.int)) ∈ ALL := all_t9 (i := 49) rfl rfl
theorem wd_1971 : (Cond.instanceMethod ({ cls := "EchoFairModel", name := "preferredEcho", desc := "(II)I" } : MethodName)) ∈ ALL := all_t9 (i := 51) rfl rfl
theorem wd_1972 : (Cond.selects "EchoFairModel" ({ cls := "EchoFairModel", name := "preferredEcho", desc := "(II)I" } : MethodName) ({ cls := "EchoFairModel", name := "preferredEcho", desc := "(II)I" } : MethodName)) ∈ ALL := all_t9 (i := 52) rfl rfl
theorem wd_1973 : (Cond.code ({ cls := "EchoFairModel", name := "preferredEcho", desc := "(II)I" } : MethodName) prog_13_method_119_code (3 : Nat) (Option.some ClassFile.FieldType.int)) ∈ ALL := all_t9 (i := 53) rfl rfl
theorem wd_1974 : (Cond.methodLink "EchoFairModel" (409 : Nat) ({ cls := "EchoFairModel", name := "echoAt", desc := "(II)I" } : MethodName)) ∈ ALL := all_t9 (i := 54) rfl rfl
theorem wd_1976 : (Cond.instanceMethod ({ cls := "EchoFairModel", name := "echoAt", desc := "(II)I" } : MethodName)) ∈ ALL := all_t9 (i := 56) rfl rfl
theorem wd_1977 : (Cond.code ({ cls := "EchoFairModel", name := "echoAt", desc := "(II)I" } : MethodName) prog_13_method_118_code (6 : Nat) (Option.some ClassFile.FieldType.int)) ∈ ALL := all_t9 (i := 57) rfl rfl
theorem wd_1979 : (Cond.instanceMethod ({ cls := "EchoFairModel", name := "blockingPairs", desc := "()I" } : MethodName)) ∈ ALL := all_t9 (i := 59) rfl rfl
theorem wd_1980 : (Cond.selects "EchoFairModel" ({ cls := "EchoFairModel", name := "blockingPairs", desc := "()I" } : MethodName) ({ cls := "EchoFairModel", name := "blockingPairs", desc := "()I" } : MethodName)) ∈ ALL := all_t9 (i := 60) rfl rfl
theorem wd_1981 : (Cond.code ({ cls := "EchoFairModel", name := "blockingPairs", desc := "()I" } : MethodName) prog_13_method_123_code (4 : Nat) (Option.some ClassFile.FieldType.int)) ∈ ALL := all_t9 (i := 61) rfl rfl
theorem wd_1982 : (Cond.methodLink "EchoFairModel" (418 : Nat) ({ cls := "EchoFairModel", name := "isBlocking", desc := "(II)Z" } : MethodName)) ∈ ALL := all_t9 (i := 62) rfl rfl
theorem wd_1984 : (Cond.instanceMethod ({ cls := "EchoFairModel", name := "isBlocking", desc := "(II)Z" } : MethodName)) ∈ ALL := all_t9 (i := 64) rfl rfl
theorem wd_1985 : (Cond.code ({ cls := "EchoFairModel", name := "isBlocking", desc := "(II)Z" } : MethodName) prog_13_method_122_code (3 : Nat) (Option.some ClassFile.FieldType.boolean)) ∈ ALL := all_t9 (i := 65) rfl rfl
theorem wd_1986 : (Cond.methodLink "EchoFairModel" (412 : Nat) ({ cls := "EchoFairModel", name := "wouldLeave", desc := "(II)Z" } : MethodName)) ∈ ALL := all_t9 (i := 66) rfl rfl
theorem wd_1988 : (Cond.instanceMethod ({ cls := "EchoFairModel", name := "wouldLeave", desc := "(II)Z" } : MethodName)) ∈ ALL := all_t9 (i := 68) rfl rfl
theorem wd_1989 : (Cond.code ({ cls := "EchoFairModel", name := "wouldLeave", desc := "(II)Z" } : MethodName) prog_13_method_120_code (4 : Nat) (Option.some ClassFile.FieldType.boolean)) ∈ ALL := all_t9 (i := 69) rfl rfl
theorem wd_1990 : (Cond.methodLink "EchoFairModel" (415 : Nat) ({ cls := "EchoFairModel", name := "wouldTake", desc := "(II)Z" } : MethodName)) ∈ ALL := all_t9 (i := 70) rfl rfl
theorem wd_1992 : (Cond.instanceMethod ({ cls := "EchoFairModel", name := "wouldTake", desc := "(II)Z" } : MethodName)) ∈ ALL := all_t9 (i := 72) rfl rfl
theorem wd_1993 : (Cond.code ({ cls := "EchoFairModel", name := "wouldTake", desc := "(II)Z" } : MethodName) prog_13_method_121_code (4 : Nat) (Option.some ClassFile.FieldType.boolean)) ∈ ALL := all_t9 (i := 73) rfl rfl
theorem wd_1995 : (Cond.instanceMethod ({ cls := "EchoFairModel", name := "fairResult", desc := "(I)I" } : MethodName)) ∈ ALL := all_t9 (i := 75) rfl rfl
theorem wd_1996 : (Cond.selects "EchoFairModel" ({ cls := "EchoFairModel", name := "fairResult", desc := "(I)I" } : MethodName) ({ cls := "EchoFairModel", name := "fairResult", desc := "(I)I" } : MethodName)) ∈ ALL := all_t9 (i := 76) rfl rfl
theorem wd_1997 : (Cond.code ({ cls := "EchoFairModel", name := "fairResult", desc := "(I)I" } : MethodName) prog_13_method_125_code (2 : Nat) (Option.some ClassFile.FieldType.int)) ∈ ALL := all_t9 (i := 77) rfl rfl
theorem wd_1998 : (Cond.methodLink "EchoFairModel" (427 : Nat) ({ cls := "EchoFairModel", name := "resultOf", desc := "(I)I" } : MethodName)) ∈ ALL := all_t9 (i := 78) rfl rfl
theorem wd_2000 : (Cond.instanceMethod ({ cls := "EchoFairModel", name := "resultOf", desc := "(I)I" } : MethodName)) ∈ ALL := all_t9 (i := 80) rfl rfl
theorem wd_2001 : (Cond.code ({ cls := "EchoFairModel", name := "resultOf", desc := "(I)I" } : MethodName) prog_13_method_124_code (2 : Nat) (Option.some ClassFile.FieldType.int)) ∈ ALL := all_t9 (i := 81) rfl rfl
theorem wd_2002 : (Cond.methodLink "EchoFairModel" (421 : Nat) ({ cls := "EchoFairModel", name := "tries", desc := "()V" } : MethodName)) ∈ ALL := all_t9 (i := 82) rfl rfl
theorem wd_2004 : (Cond.instanceMethod ({ cls := "EchoFairModel", name := "tries", desc := "()V" } : MethodName)) ∈ ALL := all_t9 (i := 84) rfl rfl
theorem wd_2005 : (Cond.code ({ cls := "EchoFairModel", name := "tries", desc := "()V" } : MethodName) prog_13_method_8_code (1 : Nat) (Option.none : Option ClassFile.FieldType)) ∈ ALL := all_t9 (i := 85) rfl rfl
theorem wd_2006 : (Cond.methodLink "EchoFairModel" (424 : Nat) ({ cls := "EchoFairModel", name := "laidBack", desc := "(I)I" } : MethodName)) ∈ ALL := all_t9 (i := 86) rfl rfl
theorem wd_2008 : (Cond.instanceMethod ({ cls := "EchoFairModel", name := "laidBack", desc := "(I)I" } : MethodName)) ∈ ALL := all_t9 (i := 88) rfl rfl
theorem wd_2009 : (Cond.code ({ cls := "EchoFairModel", name := "laidBack", desc := "(I)I" } : MethodName) prog_13_method_9_code (2 : Nat) (Option.some ClassFile.FieldType.int)) ∈ ALL := all_t9 (i := 89) rfl rfl
theorem wd_2011 : (Cond.instanceMethod ({ cls := "EchoFairModel", name := "savingsAfter", desc := "(II)I" } : MethodName)) ∈ ALL := all_t9 (i := 91) rfl rfl
theorem wd_2012 : (Cond.selects "EchoFairModel" ({ cls := "EchoFairModel", name := "savingsAfter", desc := "(II)I" } : MethodName) ({ cls := "EchoFairModel", name := "savingsAfter", desc := "(II)I" } : MethodName)) ∈ ALL := all_t9 (i := 92) rfl rfl
theorem wd_2013 : (Cond.code ({ cls := "EchoFairModel", name := "savingsAfter", desc := "(II)I" } : MethodName) prog_13_method_127_code (3 : Nat) (Option.some ClassFile.FieldType.int)) ∈ ALL := all_t9 (i := 93) rfl rfl
theorem wd_2014 : (Cond.methodLink "EchoFairModel" (432 : Nat) ({ cls := "EchoFairModel", name := "areDays", desc := "(I)Z" } : MethodName)) ∈ ALL := all_t9 (i := 94) rfl rfl
theorem wd_2015 : (Cond.static ({ cls := "EchoFairModel", name := "areDays", desc := "(I)Z" } : MethodName)) ∈ ALL := all_t9 (i := 95) rfl rfl
theorem wd_2016 : (Cond.code ({ cls := "EchoFairModel", name := "areDays", desc := "(I)Z" } : MethodName) prog_13_method_126_code (1 : Nat) (Option.some ClassFile.FieldType.boolean)) ∈ ALL := all_t9 (i := 96) rfl rfl
theorem wd_2017 : (Cond.constantLong "EchoFairModel" (430 : Nat) (120 : Int64)) ∈ ALL := all_t9 (i := 97) rfl rfl
theorem wd_2018 : (Cond.methodLink "EchoFairModel" (435 : Nat) ({ cls := "EchoFairModel", name := "passesBoth", desc := "(ZZ)Z" } : MethodName)) ∈ ALL := all_t9 (i := 98) rfl rfl
theorem wd_2020 : (Cond.instanceMethod ({ cls := "EchoFairModel", name := "passesBoth", desc := "(ZZ)Z" } : MethodName)) ∈ ALL := all_t9 (i := 100) rfl rfl
theorem wd_2021 : (Cond.code ({ cls := "EchoFairModel", name := "passesBoth", desc := "(ZZ)Z" } : MethodName) prog_13_method_6_code (3 : Nat) (Option.some ClassFile.FieldType.boolean)) ∈ ALL := all_t9 (i := 101) rfl rfl
theorem wd_2023 : (Cond.instanceMethod ({ cls := "EchoFairModel", name := "purseAfter", desc := "(II)I" } : MethodName)) ∈ ALL := all_t9 (i := 103) rfl rfl
theorem wd_2024 : (Cond.selects "EchoFairModel" ({ cls := "EchoFairModel", name := "purseAfter", desc := "(II)I" } : MethodName) ({ cls := "EchoFairModel", name := "purseAfter", desc := "(II)I" } : MethodName)) ∈ ALL := all_t9 (i := 104) rfl rfl
theorem wd_2025 : (Cond.code ({ cls := "EchoFairModel", name := "purseAfter", desc := "(II)I" } : MethodName) prog_13_method_128_code (3 : Nat) (Option.some ClassFile.FieldType.int)) ∈ ALL := all_t9 (i := 105) rfl rfl
theorem wd_2027 : (Cond.instanceMethod ({ cls := "EchoFairModel", name := "desertsIn", desc := "(I)I" } : MethodName)) ∈ ALL := all_t9 (i := 107) rfl rfl
theorem wd_2028 : (Cond.selects "EchoFairModel" ({ cls := "EchoFairModel", name := "desertsIn", desc := "(I)I" } : MethodName) ({ cls := "EchoFairModel", name := "desertsIn", desc := "(I)I" } : MethodName)) ∈ ALL := all_t9 (i := 108) rfl rfl
theorem wd_2029 : (Cond.code ({ cls := "EchoFairModel", name := "desertsIn", desc := "(I)I" } : MethodName) prog_13_method_129_code (4 : Nat) (Option.some ClassFile.FieldType.int)) ∈ ALL := all_t9 (i := 109) rfl rfl
theorem wd_2031 : (Cond.instanceMethod ({ cls := "EchoFairModel", name := "leastWage", desc := "(II)I" } : MethodName)) ∈ ALL := all_t9 (i := 111) rfl rfl
theorem wd_2032 : (Cond.selects "EchoFairModel" ({ cls := "EchoFairModel", name := "leastWage", desc := "(II)I" } : MethodName) ({ cls := "EchoFairModel", name := "leastWage", desc := "(II)I" } : MethodName)) ∈ ALL := all_t9 (i := 112) rfl rfl
theorem wd_2033 : (Cond.code ({ cls := "EchoFairModel", name := "leastWage", desc := "(II)I" } : MethodName) prog_13_method_130_code (6 : Nat) (Option.some ClassFile.FieldType.int)) ∈ ALL := all_t9 (i := 113) rfl rfl
theorem wd_2035 : (Cond.instanceMethod ({ cls := "EchoFairModel", name := "bestTest", desc := "(I)I" } : MethodName)) ∈ ALL := all_t9 (i := 115) rfl rfl
theorem wd_2036 : (Cond.selects "EchoFairModel" ({ cls := "EchoFairModel", name := "bestTest", desc := "(I)I" } : MethodName) ({ cls := "EchoFairModel", name := "bestTest", desc := "(I)I" } : MethodName)) ∈ ALL := all_t9 (i := 116) rfl rfl
theorem wd_2037 : (Cond.code ({ cls := "EchoFairModel", name := "bestTest", desc := "(I)I" } : MethodName) prog_13_method_131_code (4 : Nat) (Option.some ClassFile.FieldType.int)) ∈ ALL := all_t9 (i := 117) rfl rfl
theorem wd_2039 : (Cond.instanceMethod ({ cls := "EchoFairModel", name := "richestEcho", desc := "()I" } : MethodName)) ∈ ALL := all_t9 (i := 119) rfl rfl
theorem wd_2040 : (Cond.selects "EchoFairModel" ({ cls := "EchoFairModel", name := "richestEcho", desc := "()I" } : MethodName) ({ cls := "EchoFairModel", name := "richestEcho", desc := "()I" } : MethodName)) ∈ ALL := all_t9 (i := 120) rfl rfl
theorem wd_2041 : (Cond.code ({ cls := "EchoFairModel", name := "richestEcho", desc := "()I" } : MethodName) prog_13_method_132_code (3 : Nat) (Option.some ClassFile.FieldType.int)) ∈ ALL := all_t9 (i := 121) rfl rfl
theorem wd_2043 : (Cond.instanceMethod ({ cls := "EchoFairModel", name := "daysServed", desc := "(II)I" } : MethodName)) ∈ ALL := all_t9 (i := 123) rfl rfl
theorem wd_2044 : (Cond.selects "EchoFairModel" ({ cls := "EchoFairModel", name := "daysServed", desc := "(II)I" } : MethodName) ({ cls := "EchoFairModel", name := "daysServed", desc := "(II)I" } : MethodName)) ∈ ALL := all_t9 (i := 124) rfl rfl
theorem wd_2045 : (Cond.code ({ cls := "EchoFairModel", name := "daysServed", desc := "(II)I" } : MethodName) prog_13_method_133_code (3 : Nat) (Option.some ClassFile.FieldType.int)) ∈ ALL := all_t9 (i := 125) rfl rfl
theorem wd_2047 : (Cond.instanceMethod ({ cls := "EchoFairModel", name := "contractsMade", desc := "()I" } : MethodName)) ∈ ALL := all_t9 (i := 127) rfl rfl
theorem wd_2048 : (Cond.selects "EchoFairModel" ({ cls := "EchoFairModel", name := "contractsMade", desc := "()I" } : MethodName) ({ cls := "EchoFairModel", name := "contractsMade", desc := "()I" } : MethodName)) ∈ ALL := all_t9 (i := 128) rfl rfl
theorem wd_2049 : (Cond.code ({ cls := "EchoFairModel", name := "contractsMade", desc := "()I" } : MethodName) prog_13_method_134_code (1 : Nat) (Option.some ClassFile.FieldType.int)) ∈ ALL := all_t9 (i := 129) rfl rfl
theorem wd_2051 : (Cond.instanceMethod ({ cls := "EchoFairModel", name := "contractsEnded", desc := "()I" } : MethodName)) ∈ ALL := all_t9 (i := 131) rfl rfl
theorem wd_2052 : (Cond.selects "EchoFairModel" ({ cls := "EchoFairModel", name := "contractsEnded", desc := "()I" } : MethodName) ({ cls := "EchoFairModel", name := "contractsEnded", desc := "()I" } : MethodName)) ∈ ALL := all_t9 (i := 132) rfl rfl
theorem wd_2053 : (Cond.code ({ cls := "EchoFairModel", name := "contractsEnded", desc := "()I" } : MethodName) prog_13_method_135_code (1 : Nat) (Option.some ClassFile.FieldType.int)) ∈ ALL := all_t9 (i := 133) rfl rfl
theorem wd_2055 : (Cond.instanceMethod ({ cls := "EchoFairModel", name := "desertions", desc := "(I)I" } : MethodName)) ∈ ALL := all_t9 (i := 135) rfl rfl
theorem wd_2056 : (Cond.selects "EchoFairModel" ({ cls := "EchoFairModel", name := "desertions", desc := "(I)I" } : MethodName) ({ cls := "EchoFairModel", name := "desertions", desc := "(I)I" } : MethodName)) ∈ ALL := all_t9 (i := 136) rfl rfl
theorem wd_2057 : (Cond.code ({ cls := "EchoFairModel", name := "desertions", desc := "(I)I" } : MethodName) prog_13_method_136_code (2 : Nat) (Option.some ClassFile.FieldType.int)) ∈ ALL := all_t9 (i := 137) rfl rfl
theorem wd_2059 : (Cond.instanceMethod ({ cls := "EchoFairModel", name := "repliesHeard", desc := "(I)I" } : MethodName)) ∈ ALL := all_t9 (i := 139) rfl rfl
theorem wd_2060 : (Cond.selects "EchoFairModel" ({ cls := "EchoFairModel", name := "repliesHeard", desc := "(I)I" } : MethodName) ({ cls := "EchoFairModel", name := "repliesHeard", desc := "(I)I" } : MethodName)) ∈ ALL := all_t9 (i := 140) rfl rfl
theorem wd_2061 : (Cond.code ({ cls := "EchoFairModel", name := "repliesHeard", desc := "(I)I" } : MethodName) prog_13_method_137_code (2 : Nat) (Option.some ClassFile.FieldType.int)) ∈ ALL := all_t9 (i := 141) rfl rfl
theorem wd_2063 : (Cond.instanceMethod ({ cls := "EchoFairModel", name := "wagesPaid", desc := "(I)I" } : MethodName)) ∈ ALL := all_t9 (i := 143) rfl rfl
theorem wd_2064 : (Cond.selects "EchoFairModel" ({ cls := "EchoFairModel", name := "wagesPaid", desc := "(I)I" } : MethodName) ({ cls := "EchoFairModel", name := "wagesPaid", desc := "(I)I" } : MethodName)) ∈ ALL := all_t9 (i := 144) rfl rfl
theorem wd_2065 : (Cond.code ({ cls := "EchoFairModel", name := "wagesPaid", desc := "(I)I" } : MethodName) prog_13_method_138_code (2 : Nat) (Option.some ClassFile.FieldType.int)) ∈ ALL := all_t9 (i := 145) rfl rfl
theorem wd_2067 : (Cond.instanceMethod ({ cls := "EchoFairModel", name := "moneyImbalance", desc := "()I" } : MethodName)) ∈ ALL := all_t9 (i := 147) rfl rfl
theorem wd_2068 : (Cond.selects "EchoFairModel" ({ cls := "EchoFairModel", name := "moneyImbalance", desc := "()I" } : MethodName) ({ cls := "EchoFairModel", name := "moneyImbalance", desc := "()I" } : MethodName)) ∈ ALL := all_t9 (i := 148) rfl rfl
theorem wd_2069 : (Cond.code ({ cls := "EchoFairModel", name := "moneyImbalance", desc := "()I" } : MethodName) prog_13_method_142_code (1 : Nat) (Option.some ClassFile.FieldType.int)) ∈ ALL := all_t9 (i := 149) rfl rfl
theorem wd_2070 : (Cond.methodLink "EchoFairModel" (439 : Nat) ({ cls := "EchoFairModel", name := "purses", desc := "()I" } : MethodName)) ∈ ALL := all_t9 (i := 150) rfl rfl
theorem wd_2072 : (Cond.instanceMethod ({ cls := "EchoFairModel", name := "purses", desc := "()I" } : MethodName)) ∈ ALL := all_t9 (i := 152) rfl rfl
theorem wd_2073 : (Cond.code ({ cls := "EchoFairModel", name := "purses", desc := "()I" } : MethodName) prog_13_method_140_code (3 : Nat) (Option.some ClassFile.FieldType.int)) ∈ ALL := all_t9 (i := 153) rfl rfl
theorem wd_2074 : (Cond.methodLink "EchoFairModel" (442 : Nat) ({ cls := "EchoFairModel", name := "savings", desc := "()I" } : MethodName)) ∈ ALL := all_t9 (i := 154) rfl rfl
theorem wd_2076 : (Cond.instanceMethod ({ cls := "EchoFairModel", name := "savings", desc := "()I" } : MethodName)) ∈ ALL := all_t9 (i := 156) rfl rfl
theorem wd_2077 : (Cond.code ({ cls := "EchoFairModel", name := "savings", desc := "()I" } : MethodName) prog_13_method_139_code (3 : Nat) (Option.some ClassFile.FieldType.int)) ∈ ALL := all_t9 (i := 157) rfl rfl
theorem wd_2079 : (Cond.instanceMethod ({ cls := "EchoFairModel", name := "contractImbalance", desc := "()I" } : MethodName)) ∈ ALL := all_t9 (i := 159) rfl rfl
theorem wd_2080 : (Cond.selects "EchoFairModel" ({ cls := "EchoFairModel", name := "contractImbalance", desc := "()I" } : MethodName) ({ cls := "EchoFairModel", name := "contractImbalance", desc := "()I" } : MethodName)) ∈ ALL := all_t9 (i := 160) rfl rfl
theorem wd_2081 : (Cond.code ({ cls := "EchoFairModel", name := "contractImbalance", desc := "()I" } : MethodName) prog_13_method_143_code (1 : Nat) (Option.some ClassFile.FieldType.int)) ∈ ALL := all_t9 (i := 161) rfl rfl
theorem wd_2082 : (Cond.methodLink "EchoFairModel" (445 : Nat) ({ cls := "EchoFairModel", name := "contracts", desc := "()I" } : MethodName)) ∈ ALL := all_t9 (i := 162) rfl rfl
theorem wd_2084 : (Cond.instanceMethod ({ cls := "EchoFairModel", name := "contracts", desc := "()I" } : MethodName)) ∈ ALL := all_t9 (i := 164) rfl rfl
theorem wd_2085 : (Cond.code ({ cls := "EchoFairModel", name := "contracts", desc := "()I" } : MethodName) prog_13_method_141_code (3 : Nat) (Option.some ClassFile.FieldType.int)) ∈ ALL := all_t9 (i := 165) rfl rfl
theorem wd_2087 : (Cond.instanceMethod ({ cls := "EchoFairModel", name := "doubleServants", desc := "()I" } : MethodName)) ∈ ALL := all_t9 (i := 167) rfl rfl
theorem wd_2088 : (Cond.selects "EchoFairModel" ({ cls := "EchoFairModel", name := "doubleServants", desc := "()I" } : MethodName) ({ cls := "EchoFairModel", name := "doubleServants", desc := "()I" } : MethodName)) ∈ ALL := all_t9 (i := 168) rfl rfl
theorem wd_2089 : (Cond.code ({ cls := "EchoFairModel", name := "doubleServants", desc := "()I" } : MethodName) prog_13_method_145_code (3 : Nat) (Option.some ClassFile.FieldType.int)) ∈ ALL := all_t9 (i := 169) rfl rfl
theorem wd_2090 : (Cond.methodLink "EchoFairModel" (448 : Nat) ({ cls := "EchoFairModel", name := "servedBy", desc := "(I)I" } : MethodName)) ∈ ALL := all_t9 (i := 170) rfl rfl
theorem wd_2092 : (Cond.instanceMethod ({ cls := "EchoFairModel", name := "servedBy", desc := "(I)I" } : MethodName)) ∈ ALL := all_t9 (i := 172) rfl rfl
theorem wd_2093 : (Cond.code ({ cls := "EchoFairModel", name := "servedBy", desc := "(I)I" } : MethodName) prog_13_method_144_code (5 : Nat) (Option.some ClassFile.FieldType.int)) ∈ ALL := all_t9 (i := 173) rfl rfl
theorem wd_2095 : (Cond.instanceMethod ({ cls := "EchoFairModel", name := "meanSavings", desc := "()D" } : MethodName)) ∈ ALL := all_t9 (i := 175) rfl rfl
theorem wd_2096 : (Cond.selects "EchoFairModel" ({ cls := "EchoFairModel", name := "meanSavings", desc := "()D" } : MethodName) ({ cls := "EchoFairModel", name := "meanSavings", desc := "()D" } : MethodName)) ∈ ALL := all_t9 (i := 176) rfl rfl
theorem wd_2097 : (Cond.code ({ cls := "EchoFairModel", name := "meanSavings", desc := "()D" } : MethodName) prog_13_method_146_code (1 : Nat) (Option.some ClassFile.FieldType.double)) ∈ ALL := all_t9 (i := 177) rfl rfl
theorem wd_2099 : (Cond.instanceMethod ({ cls := "EchoFairModel", name := "employmentRate", desc := "()F" } : MethodName)) ∈ ALL := all_t9 (i := 179) rfl rfl
theorem wd_2100 : (Cond.selects "EchoFairModel" ({ cls := "EchoFairModel", name := "employmentRate", desc := "()F" } : MethodName) ({ cls := "EchoFairModel", name := "employmentRate", desc := "()F" } : MethodName)) ∈ ALL := all_t9 (i := 180) rfl rfl
theorem wd_2101 : (Cond.code ({ cls := "EchoFairModel", name := "employmentRate", desc := "()F" } : MethodName) prog_13_method_147_code (1 : Nat) (Option.some ClassFile.FieldType.float)) ∈ ALL := all_t9 (i := 181) rfl rfl
theorem wd_2103 : (Cond.instanceMethod ({ cls := "EchoFairModel", name := "passDays", desc := "(I)I" } : MethodName)) ∈ ALL := all_t9 (i := 183) rfl rfl
theorem wd_2104 : (Cond.selects "EchoFairModel" ({ cls := "EchoFairModel", name := "passDays", desc := "(I)I" } : MethodName) ({ cls := "EchoFairModel", name := "passDays", desc := "(I)I" } : MethodName)) ∈ ALL := all_t9 (i := 184) rfl rfl
theorem wd_2105 : (Cond.code ({ cls := "EchoFairModel", name := "passDays", desc := "(I)I" } : MethodName) prog_13_method_150_code (2 : Nat) (Option.some ClassFile.FieldType.int)) ∈ ALL := all_t9 (i := 185) rfl rfl
theorem wd_2106 : (Cond.constantLong "EchoFairModel" (451 : Nat) (60 : Int64)) ∈ ALL := all_t9 (i := 186) rfl rfl
theorem wd_2107 : (Cond.methodLink "EchoFairModel" (453 : Nat) ({ cls := "EchoFairModel", name := "tried", desc := "(Z)Z" } : MethodName)) ∈ ALL := all_t9 (i := 187) rfl rfl
theorem wd_2109 : (Cond.instanceMethod ({ cls := "EchoFairModel", name := "tried", desc := "(Z)Z" } : MethodName)) ∈ ALL := all_t9 (i := 189) rfl rfl
theorem wd_2110 : (Cond.code ({ cls := "EchoFairModel", name := "tried", desc := "(Z)Z" } : MethodName) prog_13_method_148_code (2 : Nat) (Option.some ClassFile.FieldType.boolean)) ∈ ALL := all_t9 (i := 190) rfl rfl
theorem wd_2111 : (Cond.methodLink "EchoFairModel" (456 : Nat) ({ cls := "EchoFairModel", name := "done", desc := "(Z)I" } : MethodName)) ∈ ALL := all_t9 (i := 191) rfl rfl
theorem wd_2113 : (Cond.instanceMethod ({ cls := "EchoFairModel", name := "done", desc := "(Z)I" } : MethodName)) ∈ ALL := all_t9 (i := 193) rfl rfl
theorem wd_2114 : (Cond.code ({ cls := "EchoFairModel", name := "done", desc := "(Z)I" } : MethodName) prog_13_method_149_code (2 : Nat) (Option.some ClassFile.FieldType.int)) ∈ ALL := all_t9 (i := 194) rfl rfl
theorem wd_2116 : (Cond.instanceMethod ({ cls := "EchoFairModel", name := "holdFair", desc := "()I" } : MethodName)) ∈ ALL := all_t9 (i := 196) rfl rfl
theorem wd_2117 : (Cond.selects "EchoFairModel" ({ cls := "EchoFairModel", name := "holdFair", desc := "()I" } : MethodName) ({ cls := "EchoFairModel", name := "holdFair", desc := "()I" } : MethodName)) ∈ ALL := all_t9 (i := 197) rfl rfl
theorem wd_2118 : (Cond.code ({ cls := "EchoFairModel", name := "holdFair", desc := "()I" } : MethodName) prog_13_method_151_code (1 : Nat) (Option.some ClassFile.FieldType.int)) ∈ ALL := all_t9 (i := 198) rfl rfl
theorem wd_2120 : (Cond.instanceMethod ({ cls := "EchoFairModel", name := "test", desc := "(II)I" } : MethodName)) ∈ ALL := all_t9 (i := 200) rfl rfl
theorem wd_2121 : (Cond.selects "EchoFairModel" ({ cls := "EchoFairModel", name := "test", desc := "(II)I" } : MethodName) ({ cls := "EchoFairModel", name := "test", desc := "(II)I" } : MethodName)) ∈ ALL := all_t9 (i := 201) rfl rfl
theorem wd_2122 : (Cond.code ({ cls := "EchoFairModel", name := "test", desc := "(II)I" } : MethodName) prog_13_method_152_code (4 : Nat) (Option.some ClassFile.FieldType.int)) ∈ ALL := all_t9 (i := 202) rfl rfl
theorem wd_2124 : (Cond.instanceMethod ({ cls := "EchoFairModel", name := "dismiss", desc := "(I)I" } : MethodName)) ∈ ALL := all_t9 (i := 204) rfl rfl
theorem wd_2125 : (Cond.selects "EchoFairModel" ({ cls := "EchoFairModel", name := "dismiss", desc := "(I)I" } : MethodName) ({ cls := "EchoFairModel", name := "dismiss", desc := "(I)I" } : MethodName)) ∈ ALL := all_t9 (i := 205) rfl rfl
theorem wd_2126 : (Cond.code ({ cls := "EchoFairModel", name := "dismiss", desc := "(I)I" } : MethodName) prog_13_method_153_code (2 : Nat) (Option.some ClassFile.FieldType.int)) ∈ ALL := all_t9 (i := 206) rfl rfl
theorem wd_2128 : (Cond.instanceMethod ({ cls := "EchoFairModel", name := "setWage", desc := "(II)I" } : MethodName)) ∈ ALL := all_t9 (i := 208) rfl rfl
theorem wd_2129 : (Cond.selects "EchoFairModel" ({ cls := "EchoFairModel", name := "setWage", desc := "(II)I" } : MethodName) ({ cls := "EchoFairModel", name := "setWage", desc := "(II)I" } : MethodName)) ∈ ALL := all_t9 (i := 209) rfl rfl
theorem wd_2130 : (Cond.code ({ cls := "EchoFairModel", name := "setWage", desc := "(II)I" } : MethodName) prog_13_method_154_code (3 : Nat) (Option.some ClassFile.FieldType.int)) ∈ ALL := all_t9 (i := 210) rfl rfl
theorem wd_2131 : (Cond.constantLong "EchoFairModel" (459 : Nat) (99 : Int64)) ∈ ALL := all_t9 (i := 211) rfl rfl
theorem wd_2133 : (Cond.instanceMethod ({ cls := "EchoFairModel", name := "fund", desc := "(II)I" } : MethodName)) ∈ ALL := all_t9 (i := 213) rfl rfl
theorem wd_2134 : (Cond.selects "EchoFairModel" ({ cls := "EchoFairModel", name := "fund", desc := "(II)I" } : MethodName) ({ cls := "EchoFairModel", name := "fund", desc := "(II)I" } : MethodName)) ∈ ALL := all_t9 (i := 214) rfl rfl
theorem wd_2135 : (Cond.code ({ cls := "EchoFairModel", name := "fund", desc := "(II)I" } : MethodName) prog_13_method_155_code (3 : Nat) (Option.some ClassFile.FieldType.int)) ∈ ALL := all_t9 (i := 215) rfl rfl
theorem wd_2136 : (Cond.constantLong "EchoFairModel" (461 : Nat) (999 : Int64)) ∈ ALL := all_t9 (i := 216) rfl rfl
theorem wd_2138 : (Cond.instanceMethod ({ cls := "EchoFairModel", name := "train", desc := "(I)I" } : MethodName)) ∈ ALL := all_t9 (i := 218) rfl rfl
theorem wd_2139 : (Cond.selects "EchoFairModel" ({ cls := "EchoFairModel", name := "train", desc := "(I)I" } : MethodName) ({ cls := "EchoFairModel", name := "train", desc := "(I)I" } : MethodName)) ∈ ALL := all_t9 (i := 219) rfl rfl
theorem wd_2140 : (Cond.code ({ cls := "EchoFairModel", name := "train", desc := "(I)I" } : MethodName) prog_13_method_156_code (2 : Nat) (Option.some ClassFile.FieldType.int)) ∈ ALL := all_t9 (i := 220) rfl rfl
theorem wd_2142 : (Cond.instanceMethod ({ cls := "EchoFairModel", name := "undo", desc := "()I" } : MethodName)) ∈ ALL := all_t9 (i := 222) rfl rfl
theorem wd_2143 : (Cond.selects "EchoFairModel" ({ cls := "EchoFairModel", name := "undo", desc := "()I" } : MethodName) ({ cls := "EchoFairModel", name := "undo", desc := "()I" } : MethodName)) ∈ ALL := all_t9 (i := 223) rfl rfl
theorem wd_2144 : (Cond.code ({ cls := "EchoFairModel", name := "undo", desc := "()I" } : MethodName) prog_13_method_157_code (1 : Nat) (Option.some ClassFile.FieldType.int)) ∈ ALL := all_t9 (i := 224) rfl rfl
theorem wd_2146 : (Cond.instanceMethod ({ cls := "EchoFairModel", name := "save", desc := "()I" } : MethodName)) ∈ ALL := all_t9 (i := 226) rfl rfl
theorem wd_2147 : (Cond.selects "EchoFairModel" ({ cls := "EchoFairModel", name := "save", desc := "()I" } : MethodName) ({ cls := "EchoFairModel", name := "save", desc := "()I" } : MethodName)) ∈ ALL := all_t9 (i := 227) rfl rfl
theorem wd_2148 : (Cond.code ({ cls := "EchoFairModel", name := "save", desc := "()I" } : MethodName) prog_13_method_158_code (1 : Nat) (Option.some ClassFile.FieldType.int)) ∈ ALL := all_t9 (i := 228) rfl rfl
theorem wd_2150 : (Cond.instanceMethod ({ cls := "EchoFairModel", name := "restore", desc := "()I" } : MethodName)) ∈ ALL := all_t9 (i := 230) rfl rfl
theorem wd_2151 : (Cond.selects "EchoFairModel" ({ cls := "EchoFairModel", name := "restore", desc := "()I" } : MethodName) ({ cls := "EchoFairModel", name := "restore", desc := "()I" } : MethodName)) ∈ ALL := all_t9 (i := 231) rfl rfl
theorem wd_2152 : (Cond.code ({ cls := "EchoFairModel", name := "restore", desc := "()I" } : MethodName) prog_13_method_159_code (1 : Nat) (Option.some ClassFile.FieldType.int)) ∈ ALL := all_t9 (i := 232) rfl rfl
theorem wd_2154 : (Cond.instanceMethod ({ cls := "EchoFairModel", name := "formatContracts", desc := "()I" } : MethodName)) ∈ ALL := all_t9 (i := 234) rfl rfl
theorem wd_2155 : (Cond.selects "EchoFairModel" ({ cls := "EchoFairModel", name := "formatContracts", desc := "()I" } : MethodName) ({ cls := "EchoFairModel", name := "formatContracts", desc := "()I" } : MethodName)) ∈ ALL := all_t9 (i := 235) rfl rfl
theorem wd_2156 : (Cond.code ({ cls := "EchoFairModel", name := "formatContracts", desc := "()I" } : MethodName) prog_13_method_162_code (3 : Nat) (Option.some ClassFile.FieldType.int)) ∈ ALL := all_t9 (i := 236) rfl rfl
theorem wd_2157 : (Cond.methodLink "EchoFairModel" (470 : Nat) ({ cls := "EchoFairModel", name := "writes", desc := "(I)V" } : MethodName)) ∈ ALL := all_t9 (i := 237) rfl rfl
theorem wd_2159 : (Cond.instanceMethod ({ cls := "EchoFairModel", name := "writes", desc := "(I)V" } : MethodName)) ∈ ALL := all_t9 (i := 239) rfl rfl
theorem wd_2160 : (Cond.code ({ cls := "EchoFairModel", name := "writes", desc := "(I)V" } : MethodName) prog_13_method_160_code (2 : Nat) (Option.none : Option ClassFile.FieldType)) ∈ ALL := all_t10 (i := 0) rfl rfl
theorem wd_2161 : (Cond.methodLink "EchoFairModel" (473 : Nat) ({ cls := "EchoFairModel", name := "writesName", desc := "(I)V" } : MethodName)) ∈ ALL := all_t10 (i := 1) rfl rfl
theorem wd_2163 : (Cond.instanceMethod ({ cls := "EchoFairModel", name := "writesName", desc := "(I)V" } : MethodName)) ∈ ALL := all_t10 (i := 3) rfl rfl
theorem wd_2164 : (Cond.code ({ cls := "EchoFairModel", name := "writesName", desc := "(I)V" } : MethodName) prog_13_method_161_code (3 : Nat) (Option.none : Option ClassFile.FieldType)) ∈ ALL := all_t10 (i := 4) rfl rfl
theorem wd_2166 : (Cond.instanceMethod ({ cls := "EchoFairModel", name := "outputByte", desc := "(I)I" } : MethodName)) ∈ ALL := all_t10 (i := 6) rfl rfl
theorem wd_2167 : (Cond.selects "EchoFairModel" ({ cls := "EchoFairModel", name := "outputByte", desc := "(I)I" } : MethodName) ({ cls := "EchoFairModel", name := "outputByte", desc := "(I)I" } : MethodName)) ∈ ALL := all_t10 (i := 7) rfl rfl
theorem wd_2168 : (Cond.code ({ cls := "EchoFairModel", name := "outputByte", desc := "(I)I" } : MethodName) prog_13_method_163_code (2 : Nat) (Option.some ClassFile.FieldType.int)) ∈ ALL := all_t10 (i := 8) rfl rfl
theorem wd_2171 : (Cond.fieldLink "java/lang/String" (9 : Nat) "java/lang/String" "value" "[B") ∈ ALL := all_t10 (i := 11) rfl rfl
theorem wd_2172 : (Cond.fieldLink "java/lang/String" (15 : Nat) "java/lang/String" "coder" "B") ∈ ALL := all_t10 (i := 12) rfl rfl
theorem wq_0 : (Cond.selects "EchoFair$Configuration" ⟨"EchoFair$Configuration", "takeSeason", "()Z"⟩ ⟨"EchoFair$Configuration", "takeSeason", "()Z"⟩) ∈ ALL := all_s (i := 0) rfl rfl
theorem wq_1 : (Cond.selects "EchoFair$Configuration" ⟨"EchoFair$Configuration", "takeFog", "()Z"⟩ ⟨"EchoFair$Configuration", "takeFog", "()Z"⟩) ∈ ALL := all_s (i := 1) rfl rfl
theorem wq_2 : (Cond.selects "EchoFair$Configuration" ⟨"EchoFair$Configuration", "isComplete", "()Z"⟩ ⟨"EchoFair$Configuration", "isComplete", "()Z"⟩) ∈ ALL := all_s (i := 2) rfl rfl
theorem wq_3 : (Cond.selects "EchoFair$Configuration" ⟨"EchoFair$Configuration", "takeStatement", "()Z"⟩ ⟨"EchoFair$Configuration", "takeStatement", "()Z"⟩) ∈ ALL := all_s (i := 3) rfl rfl
theorem wq_4 : (Cond.selects "EchoFair$Configuration" ⟨"EchoFair$Configuration", "takeNewEcho", "()Z"⟩ ⟨"EchoFair$Configuration", "takeNewEcho", "()Z"⟩) ∈ ALL := all_s (i := 4) rfl rfl
theorem wq_5 : (Cond.selects "EchoFair$Tokens" ⟨"EchoFair$Tokens", "isName", "()Z"⟩ ⟨"EchoFair$Tokens", "isName", "()Z"⟩) ∈ ALL := all_s (i := 5) rfl rfl
theorem wq_6 : (Cond.selects "EchoFair$Configuration" ⟨"EchoFair$Configuration", "takeNewValley", "()Z"⟩ ⟨"EchoFair$Configuration", "takeNewValley", "()Z"⟩) ∈ ALL := all_s (i := 6) rfl rfl
theorem wq_7 : (Cond.selects "EchoFair$Configuration" ⟨"EchoFair$Configuration", "takeTest", "()Z"⟩ ⟨"EchoFair$Configuration", "takeTest", "()Z"⟩) ∈ ALL := all_s (i := 7) rfl rfl
theorem wq_8 : (Cond.selects "EchoFair" ⟨"EchoFair", "adoptDraft", "()V"⟩ ⟨"EchoFair", "adoptDraft", "()V"⟩) ∈ ALL := all_s (i := 8) rfl rfl
theorem wq_9 : (Cond.selects "EchoFair$Matching" ⟨"EchoFair$Matching", "enrol", "(LEchoFair$World;)V"⟩ ⟨"EchoFair$Matching", "enrol", "(LEchoFair$World;)V"⟩) ∈ ALL := all_s (i := 9) rfl rfl
theorem wq_10 : (Cond.selects "EchoFair$Matching" ⟨"EchoFair$Matching", "enqueue", "(I)V"⟩ ⟨"EchoFair$Matching", "enqueue", "(I)V"⟩) ∈ ALL := all_s (i := 10) rfl rfl
theorem wq_11 : (Cond.selects "EchoFair$Matching" ⟨"EchoFair$Matching", "weigh", "(LEchoFair$World;)V"⟩ ⟨"EchoFair$Matching", "weigh", "(LEchoFair$World;)V"⟩) ∈ ALL := all_s (i := 11) rfl rfl
theorem wq_12 : (Cond.selects "EchoFair$Matching" ⟨"EchoFair$Matching", "favourite", "(LEchoFair$World;I)I"⟩ ⟨"EchoFair$Matching", "favourite", "(LEchoFair$World;I)I"⟩) ∈ ALL := all_s (i := 12) rfl rfl
theorem wq_13 : (Cond.selects "EchoFair$Matching" ⟨"EchoFair$Matching", "apply", "(LEchoFair$World;II)V"⟩ ⟨"EchoFair$Matching", "apply", "(LEchoFair$World;II)V"⟩) ∈ ALL := all_s (i := 13) rfl rfl
theorem wq_14 : (Cond.selects "EchoFair$Matching" ⟨"EchoFair$Matching", "leastKept", "(LEchoFair$World;I)I"⟩ ⟨"EchoFair$Matching", "leastKept", "(LEchoFair$World;I)I"⟩) ∈ ALL := all_s (i := 14) rfl rfl
theorem wq_15 : (Cond.selects "EchoFair$Matching" ⟨"EchoFair$Matching", "prefers", "(III)Z"⟩ ⟨"EchoFair$Matching", "prefers", "(III)Z"⟩) ∈ ALL := all_s (i := 15) rfl rfl
theorem wq_16 : (Cond.selects "EchoFair$Matching" ⟨"EchoFair$Matching", "sign", "(LEchoFair$World;)I"⟩ ⟨"EchoFair$Matching", "sign", "(LEchoFair$World;)I"⟩) ∈ ALL := all_s (i := 16) rfl rfl
theorem wq_17 : (Cond.selects "EchoFair" ⟨"EchoFair", "writeContracts", "(LEchoFair$Valley;)V"⟩ ⟨"EchoFair", "writeContracts", "(LEchoFair$Valley;)V"⟩) ∈ ALL := all_s (i := 17) rfl rfl
theorem wq_19 : (Cond.selects "EchoFair" ⟨"EchoFair", "noteErrors", "()V"⟩ ⟨"EchoFair", "noteErrors", "()V"⟩) ∈ ALL := all_s (i := 19) rfl rfl
theorem wq_20 : (Cond.selects "EchoFair$Commands" ⟨"EchoFair$Commands", "verbRead", "()I"⟩ ⟨"EchoFair$Commands", "verbRead", "()I"⟩) ∈ ALL := all_s (i := 20) rfl rfl
theorem wq_21 : (Cond.selects "EchoFair$Commands" ⟨"EchoFair$Commands", "takeParameters", "(ILEchoFair$World;)Z"⟩ ⟨"EchoFair$Commands", "takeParameters", "(ILEchoFair$World;)Z"⟩) ∈ ALL := all_s (i := 21) rfl rfl
theorem wq_22 : (Cond.selects "EchoFair$Commands" ⟨"EchoFair$Commands", "takeValleyAndMore", "(ILEchoFair$World;)Z"⟩ ⟨"EchoFair$Commands", "takeValleyAndMore", "(ILEchoFair$World;)Z"⟩) ∈ ALL := all_s (i := 22) rfl rfl
theorem wq_23 : (Cond.selects "EchoFair" ⟨"EchoFair", "perform", "(I)Z"⟩ ⟨"EchoFair", "perform", "(I)Z"⟩) ∈ ALL := all_s (i := 23) rfl rfl
theorem wq_24 : (Cond.selects "EchoFair" ⟨"EchoFair", "letDaysPass", "(LEchoFair$World;I)I"⟩ ⟨"EchoFair", "letDaysPass", "(LEchoFair$World;I)I"⟩) ∈ ALL := all_s (i := 24) rfl rfl
theorem wq_25 : (Cond.selects "EchoFair$World" ⟨"EchoFair$World", "hearReplies", "(LEchoFair$Valley;)V"⟩ ⟨"EchoFair$World", "hearReplies", "(LEchoFair$Valley;)V"⟩) ∈ ALL := all_s (i := 25) rfl rfl
theorem wq_26 : (Cond.selects "EchoFair$World" ⟨"EchoFair$World", "payStaff", "(LEchoFair$Valley;)V"⟩ ⟨"EchoFair$World", "payStaff", "(LEchoFair$Valley;)V"⟩) ∈ ALL := all_s (i := 26) rfl rfl
theorem wq_27 : (Cond.selects "EchoFair" ⟨"EchoFair", "echoAt", "(I)LEchoFair$Echo;"⟩ ⟨"EchoFair", "echoAt", "(I)LEchoFair$Echo;"⟩) ∈ ALL := all_s (i := 27) rfl rfl
theorem wq_28 : (Cond.selects "EchoFair" ⟨"EchoFair", "requireEcho", "(I)V"⟩ ⟨"EchoFair", "requireEcho", "(I)V"⟩) ∈ ALL := all_s (i := 28) rfl rfl
theorem wq_29 : (Cond.selects "EchoFair" ⟨"EchoFair", "valleyAt", "(I)LEchoFair$Valley;"⟩ ⟨"EchoFair", "valleyAt", "(I)LEchoFair$Valley;"⟩) ∈ ALL := all_s (i := 29) rfl rfl
theorem wq_30 : (Cond.selects "EchoFair" ⟨"EchoFair", "requireValley", "(I)V"⟩ ⟨"EchoFair", "requireValley", "(I)V"⟩) ∈ ALL := all_s (i := 30) rfl rfl
theorem wq_31 : (Cond.selects "EchoFair" ⟨"EchoFair", "requirePair", "(II)V"⟩ ⟨"EchoFair", "requirePair", "(II)V"⟩) ∈ ALL := all_s (i := 31) rfl rfl
theorem wq_32 : (Cond.selects "EchoFair" ⟨"EchoFair", "simulate", "(I)V"⟩ ⟨"EchoFair", "simulate", "(I)V"⟩) ∈ ALL := all_s (i := 32) rfl rfl
theorem wq_33 : (Cond.selects "EchoFairModel" ⟨"EchoFairModel", "startsText", "()V"⟩ ⟨"EchoFairModel", "startsText", "()V"⟩) ∈ ALL := all_s (i := 33) rfl rfl
theorem wq_34 : (Cond.selects "EchoFairModel" ⟨"EchoFairModel", "keyword", "(Ljava/lang/String;)V"⟩ ⟨"EchoFairModel", "keyword", "(Ljava/lang/String;)V"⟩) ∈ ALL := all_s (i := 34) rfl rfl
theorem wq_35 : (Cond.selects "EchoFairModel" ⟨"EchoFairModel", "sees", "(Ljava/lang/String;)Z"⟩ ⟨"EchoFairModel", "sees", "(Ljava/lang/String;)Z"⟩) ∈ ALL := all_s (i := 35) rfl rfl
theorem wq_36 : (Cond.selects "EchoFairModel" ⟨"EchoFairModel", "next", "()I"⟩ ⟨"EchoFairModel", "next", "()I"⟩) ∈ ALL := all_s (i := 36) rfl rfl
theorem wq_37 : (Cond.selects "EchoFairModel" ⟨"EchoFairModel", "byteAt", "(I)I"⟩ ⟨"EchoFairModel", "byteAt", "(I)I"⟩) ∈ ALL := all_s (i := 37) rfl rfl
theorem wq_38 : (Cond.selects "EchoFairModel" ⟨"EchoFairModel", "must", "(ZI)V"⟩ ⟨"EchoFairModel", "must", "(ZI)V"⟩) ∈ ALL := all_s (i := 38) rfl rfl
theorem wq_39 : (Cond.selects "EchoFairModel" ⟨"EchoFairModel", "goesPast", "()V"⟩ ⟨"EchoFairModel", "goesPast", "()V"⟩) ∈ ALL := all_s (i := 39) rfl rfl
theorem wq_40 : (Cond.selects "EchoFairModel" ⟨"EchoFairModel", "number", "(II)I"⟩ ⟨"EchoFairModel", "number", "(II)I"⟩) ∈ ALL := all_s (i := 40) rfl rfl
theorem wq_41 : (Cond.selects "EchoFairModel" ⟨"EchoFairModel", "semicolon", "()V"⟩ ⟨"EchoFairModel", "semicolon", "()V"⟩) ∈ ALL := all_s (i := 41) rfl rfl
theorem wq_42 : (Cond.selects "EchoFairModel" ⟨"EchoFairModel", "fogLine", "()V"⟩ ⟨"EchoFairModel", "fogLine", "()V"⟩) ∈ ALL := all_s (i := 42) rfl rfl
theorem wq_43 : (Cond.selects "EchoFairModel" ⟨"EchoFairModel", "isNumberNext", "()Z"⟩ ⟨"EchoFairModel", "isNumberNext", "()Z"⟩) ∈ ALL := all_s (i := 43) rfl rfl
theorem wq_44 : (Cond.selects "EchoFairModel" ⟨"EchoFairModel", "statement", "()V"⟩ ⟨"EchoFairModel", "statement", "()V"⟩) ∈ ALL := all_s (i := 44) rfl rfl
theorem wq_45 : (Cond.selects "EchoFairModel" ⟨"EchoFairModel", "echoLine", "()V"⟩ ⟨"EchoFairModel", "echoLine", "()V"⟩) ∈ ALL := all_s (i := 45) rfl rfl
theorem wq_46 : (Cond.selects "EchoFairModel" ⟨"EchoFairModel", "newName", "(IZ)V"⟩ ⟨"EchoFairModel", "newName", "(IZ)V"⟩) ∈ ALL := all_s (i := 46) rfl rfl
theorem wq_47 : (Cond.selects "EchoFairModel" ⟨"EchoFairModel", "isName", "()Z"⟩ ⟨"EchoFairModel", "isName", "()Z"⟩) ∈ ALL := all_s (i := 47) rfl rfl
theorem wq_48 : (Cond.selects "EchoFairModel" ⟨"EchoFairModel", "thingHere", "(Z)I"⟩ ⟨"EchoFairModel", "thingHere", "(Z)I"⟩) ∈ ALL := all_s (i := 48) rfl rfl
theorem wq_49 : (Cond.selects "EchoFairModel" ⟨"EchoFairModel", "isNamed", "(I)Z"⟩ ⟨"EchoFairModel", "isNamed", "(I)Z"⟩) ∈ ALL := all_s (i := 49) rfl rfl
theorem wq_50 : (Cond.selects "EchoFairModel" ⟨"EchoFairModel", "puts", "(III)V"⟩ ⟨"EchoFairModel", "puts", "(III)V"⟩) ∈ ALL := all_s (i := 50) rfl rfl
theorem wq_51 : (Cond.selects "EchoFairModel" ⟨"EchoFairModel", "valleyLine", "()V"⟩ ⟨"EchoFairModel", "valleyLine", "()V"⟩) ∈ ALL := all_s (i := 51) rfl rfl
theorem wq_52 : (Cond.selects "EchoFairModel" ⟨"EchoFairModel", "putsValley", "(III)V"⟩ ⟨"EchoFairModel", "putsValley", "(III)V"⟩) ∈ ALL := all_s (i := 52) rfl rfl
theorem wq_53 : (Cond.selects "EchoFairModel" ⟨"EchoFairModel", "testedLine", "()V"⟩ ⟨"EchoFairModel", "testedLine", "()V"⟩) ∈ ALL := all_s (i := 53) rfl rfl
theorem wq_54 : (Cond.selects "EchoFairModel" ⟨"EchoFairModel", "mustBe", "(Z)I"⟩ ⟨"EchoFairModel", "mustBe", "(Z)I"⟩) ∈ ALL := all_s (i := 54) rfl rfl
theorem wq_55 : (Cond.selects "EchoFairModel" ⟨"EchoFairModel", "endsText", "()Z"⟩ ⟨"EchoFairModel", "endsText", "()Z"⟩) ∈ ALL := all_s (i := 55) rfl rfl
theorem wq_56 : (Cond.selects "EchoFairModel" ⟨"EchoFairModel", "passes", "(Z)Z"⟩ ⟨"EchoFairModel", "passes", "(Z)Z"⟩) ∈ ALL := all_s (i := 56) rfl rfl
theorem wq_57 : (Cond.selects "EchoFairModel" ⟨"EchoFairModel", "four", "(I)V"⟩ ⟨"EchoFairModel", "four", "(I)V"⟩) ∈ ALL := all_s (i := 57) rfl rfl
theorem wq_58 : (Cond.selects "EchoFairModel" ⟨"EchoFairModel", "readsOne", "()V"⟩ ⟨"EchoFairModel", "readsOne", "()V"⟩) ∈ ALL := all_s (i := 58) rfl rfl
theorem wq_59 : (Cond.selects "EchoFairModel" ⟨"EchoFairModel", "commandHere", "()I"⟩ ⟨"EchoFairModel", "commandHere", "()I"⟩) ∈ ALL := all_s (i := 59) rfl rfl
theorem wq_60 : (Cond.selects "EchoFairModel" ⟨"EchoFairModel", "otherCommand", "()I"⟩ ⟨"EchoFairModel", "otherCommand", "()I"⟩) ∈ ALL := all_s (i := 60) rfl rfl
theorem wq_61 : (Cond.selects "EchoFairModel" ⟨"EchoFairModel", "partsOf", "(II)V"⟩ ⟨"EchoFairModel", "partsOf", "(II)V"⟩) ∈ ALL := all_s (i := 61) rfl rfl
theorem wq_62 : (Cond.selects "EchoFairModel" ⟨"EchoFairModel", "keeps", "([I)V"⟩ ⟨"EchoFairModel", "keeps", "([I)V"⟩) ∈ ALL := all_s (i := 62) rfl rfl
theorem wq_63 : (Cond.selects "EchoFairModel" ⟨"EchoFairModel", "doesOne", "(I)Z"⟩ ⟨"EchoFairModel", "doesOne", "(I)Z"⟩) ∈ ALL := all_s (i := 63) rfl rfl
theorem wq_64 : (Cond.selects "EchoFairModel" ⟨"EchoFairModel", "passNow", "(I)Z"⟩ ⟨"EchoFairModel", "passNow", "(I)Z"⟩) ∈ ALL := all_s (i := 64) rfl rfl
theorem wq_65 : (Cond.selects "EchoFairModel" ⟨"EchoFairModel", "allLeft", "()I"⟩ ⟨"EchoFairModel", "allLeft", "()I"⟩) ∈ ALL := all_s (i := 65) rfl rfl
theorem wq_66 : (Cond.selects "EchoFairModel" ⟨"EchoFairModel", "of", "(II)I"⟩ ⟨"EchoFairModel", "of", "(II)I"⟩) ∈ ALL := all_s (i := 66) rfl rfl
theorem wq_67 : (Cond.selects "EchoFairModel" ⟨"EchoFairModel", "goBy", "(I)V"⟩ ⟨"EchoFairModel", "goBy", "(I)V"⟩) ∈ ALL := all_s (i := 67) rfl rfl
theorem wq_68 : (Cond.selects "EchoFairModel" ⟨"EchoFairModel", "dayOnce", "()V"⟩ ⟨"EchoFairModel", "dayOnce", "()V"⟩) ∈ ALL := all_s (i := 68) rfl rfl
theorem wq_69 : (Cond.selects "EchoFairModel" ⟨"EchoFairModel", "beginsSeason", "()V"⟩ ⟨"EchoFairModel", "beginsSeason", "()V"⟩) ∈ ALL := all_s (i := 69) rfl rfl
theorem wq_70 : (Cond.selects "EchoFairModel" ⟨"EchoFairModel", "hasContract", "(I)Z"⟩ ⟨"EchoFairModel", "hasContract", "(I)Z"⟩) ∈ ALL := all_s (i := 70) rfl rfl
theorem wq_71 : (Cond.selects "EchoFairModel" ⟨"EchoFairModel", "contractEnds", "(I)V"⟩ ⟨"EchoFairModel", "contractEnds", "(I)V"⟩) ∈ ALL := all_s (i := 71) rfl rfl
theorem wq_72 : (Cond.selects "EchoFairModel" ⟨"EchoFairModel", "employer", "(I)I"⟩ ⟨"EchoFairModel", "employer", "(I)I"⟩) ∈ ALL := all_s (i := 72) rfl rfl
theorem wq_73 : (Cond.selects "EchoFairModel" ⟨"EchoFairModel", "ofValley", "(II)I"⟩ ⟨"EchoFairModel", "ofValley", "(II)I"⟩) ∈ ALL := all_s (i := 73) rfl rfl
theorem wq_74 : (Cond.selects "EchoFairModel" ⟨"EchoFairModel", "fairNow", "()V"⟩ ⟨"EchoFairModel", "fairNow", "()V"⟩) ∈ ALL := all_s (i := 74) rfl rfl
theorem wq_75 : (Cond.selects "EchoFairModel" ⟨"EchoFairModel", "startsFair", "()V"⟩ ⟨"EchoFairModel", "startsFair", "()V"⟩) ∈ ALL := all_s (i := 75) rfl rfl
theorem wq_76 : (Cond.selects "EchoFairModel" ⟨"EchoFairModel", "enqueues", "(I)V"⟩ ⟨"EchoFairModel", "enqueues", "(I)V"⟩) ∈ ALL := all_s (i := 76) rfl rfl
theorem wq_77 : (Cond.selects "EchoFairModel" ⟨"EchoFairModel", "dequeues", "()I"⟩ ⟨"EchoFairModel", "dequeues", "()I"⟩) ∈ ALL := all_s (i := 77) rfl rfl
theorem wq_78 : (Cond.selects "EchoFairModel" ⟨"EchoFairModel", "nextValley", "(I)I"⟩ ⟨"EchoFairModel", "nextValley", "(I)I"⟩) ∈ ALL := all_s (i := 78) rfl rfl
theorem wq_79 : (Cond.selects "EchoFairModel" ⟨"EchoFairModel", "isAcceptable", "(II)Z"⟩ ⟨"EchoFairModel", "isAcceptable", "(II)Z"⟩) ∈ ALL := all_s (i := 79) rfl rfl
theorem wq_80 : (Cond.selects "EchoFairModel" ⟨"EchoFairModel", "reasonOf", "(II)I"⟩ ⟨"EchoFairModel", "reasonOf", "(II)I"⟩) ∈ ALL := all_s (i := 80) rfl rfl
theorem wq_81 : (Cond.selects "EchoFairModel" ⟨"EchoFairModel", "seen", "(II)I"⟩ ⟨"EchoFairModel", "seen", "(II)I"⟩) ∈ ALL := all_s (i := 81) rfl rfl
theorem wq_82 : (Cond.selects "EchoFairModel" ⟨"EchoFairModel", "trueScore", "(II)I"⟩ ⟨"EchoFairModel", "trueScore", "(II)I"⟩) ∈ ALL := all_s (i := 82) rfl rfl
theorem wq_83 : (Cond.selects "EchoFairModel" ⟨"EchoFairModel", "isBetterValley", "(II)Z"⟩ ⟨"EchoFairModel", "isBetterValley", "(II)Z"⟩) ∈ ALL := all_s (i := 83) rfl rfl
theorem wq_84 : (Cond.selects "EchoFairModel" ⟨"EchoFairModel", "applies", "(II)V"⟩ ⟨"EchoFairModel", "applies", "(II)V"⟩) ∈ ALL := all_s (i := 84) rfl rfl
theorem wq_85 : (Cond.selects "EchoFairModel" ⟨"EchoFairModel", "freePosts", "(I)I"⟩ ⟨"EchoFairModel", "freePosts", "(I)I"⟩) ∈ ALL := all_s (i := 85) rfl rfl
theorem wq_86 : (Cond.selects "EchoFairModel" ⟨"EchoFairModel", "leastKept", "(I)I"⟩ ⟨"EchoFairModel", "leastKept", "(I)I"⟩) ∈ ALL := all_s (i := 86) rfl rfl
theorem wq_87 : (Cond.selects "EchoFairModel" ⟨"EchoFairModel", "isBetterEcho", "(III)Z"⟩ ⟨"EchoFairModel", "isBetterEcho", "(III)Z"⟩) ∈ ALL := all_s (i := 87) rfl rfl
theorem wq_88 : (Cond.selects "EchoFairModel" ⟨"EchoFairModel", "isKept", "(II)Z"⟩ ⟨"EchoFairModel", "isKept", "(II)Z"⟩) ∈ ALL := all_s (i := 88) rfl rfl
theorem wq_89 : (Cond.selects "EchoFairModel" ⟨"EchoFairModel", "contractComes", "(II)V"⟩ ⟨"EchoFairModel", "contractComes", "(II)V"⟩) ∈ ALL := all_s (i := 89) rfl rfl
theorem wq_90 : (Cond.selects "EchoFairModel" ⟨"EchoFairModel", "earns", "(I)V"⟩ ⟨"EchoFairModel", "earns", "(I)V"⟩) ∈ ALL := all_s (i := 90) rfl rfl
theorem wq_91 : (Cond.selects "EchoFairModel" ⟨"EchoFairModel", "pays", "(II)V"⟩ ⟨"EchoFairModel", "pays", "(II)V"⟩) ∈ ALL := all_s (i := 91) rfl rfl
theorem wq_92 : (Cond.selects "EchoFairModel" ⟨"EchoFairModel", "mayDesert", "(I)V"⟩ ⟨"EchoFairModel", "mayDesert", "(I)V"⟩) ∈ ALL := all_s (i := 92) rfl rfl
theorem wq_93 : (Cond.selects "EchoFairModel" ⟨"EchoFairModel", "fogNow", "(I)I"⟩ ⟨"EchoFairModel", "fogNow", "(I)I"⟩) ∈ ALL := all_s (i := 93) rfl rfl
theorem wq_94 : (Cond.selects "EchoFairModel" ⟨"EchoFairModel", "holdNow", "()Z"⟩ ⟨"EchoFairModel", "holdNow", "()Z"⟩) ∈ ALL := all_s (i := 94) rfl rfl
theorem wq_95 : (Cond.selects "EchoFairModel" ⟨"EchoFairModel", "testNow", "(II)Z"⟩ ⟨"EchoFairModel", "testNow", "(II)Z"⟩) ∈ ALL := all_s (i := 95) rfl rfl
theorem wq_96 : (Cond.selects "EchoFairModel" ⟨"EchoFairModel", "canTest", "(II)Z"⟩ ⟨"EchoFairModel", "canTest", "(II)Z"⟩) ∈ ALL := all_s (i := 96) rfl rfl
theorem wq_97 : (Cond.selects "EchoFairModel" ⟨"EchoFairModel", "dismissNow", "(I)Z"⟩ ⟨"EchoFairModel", "dismissNow", "(I)Z"⟩) ∈ ALL := all_s (i := 97) rfl rfl
theorem wq_98 : (Cond.selects "EchoFairModel" ⟨"EchoFairModel", "wageNow", "(II)Z"⟩ ⟨"EchoFairModel", "wageNow", "(II)Z"⟩) ∈ ALL := all_s (i := 98) rfl rfl
theorem wq_99 : (Cond.selects "EchoFairModel" ⟨"EchoFairModel", "fundNow", "(II)Z"⟩ ⟨"EchoFairModel", "fundNow", "(II)Z"⟩) ∈ ALL := all_s (i := 99) rfl rfl
theorem wq_100 : (Cond.selects "EchoFairModel" ⟨"EchoFairModel", "trainNow", "(I)Z"⟩ ⟨"EchoFairModel", "trainNow", "(I)Z"⟩) ∈ ALL := all_s (i := 100) rfl rfl
theorem wq_101 : (Cond.selects "EchoFairModel" ⟨"EchoFairModel", "canTrain", "(I)Z"⟩ ⟨"EchoFairModel", "canTrain", "(I)Z"⟩) ∈ ALL := all_s (i := 101) rfl rfl
theorem wq_102 : (Cond.selects "EchoFairModel" ⟨"EchoFairModel", "tells", "(I)I"⟩ ⟨"EchoFairModel", "tells", "(I)I"⟩) ∈ ALL := all_s (i := 102) rfl rfl
theorem wq_103 : (Cond.selects "EchoFairModel" ⟨"EchoFairModel", "finds", "(Z)I"⟩ ⟨"EchoFairModel", "finds", "(Z)I"⟩) ∈ ALL := all_s (i := 103) rfl rfl
theorem wq_104 : (Cond.selects "EchoFairModel" ⟨"EchoFairModel", "tellsEcho", "(II)I"⟩ ⟨"EchoFairModel", "tellsEcho", "(II)I"⟩) ∈ ALL := all_s (i := 104) rfl rfl
theorem wq_105 : (Cond.selects "EchoFairModel" ⟨"EchoFairModel", "isEcho", "(I)Z"⟩ ⟨"EchoFairModel", "isEcho", "(I)Z"⟩) ∈ ALL := all_s (i := 105) rfl rfl
theorem wq_106 : (Cond.selects "EchoFairModel" ⟨"EchoFairModel", "tellsValley", "(II)I"⟩ ⟨"EchoFairModel", "tellsValley", "(II)I"⟩) ∈ ALL := all_s (i := 106) rfl rfl
theorem wq_107 : (Cond.selects "EchoFairModel" ⟨"EchoFairModel", "isValley", "(I)Z"⟩ ⟨"EchoFairModel", "isValley", "(I)Z"⟩) ∈ ALL := all_s (i := 107) rfl rfl
theorem wq_108 : (Cond.selects "EchoFairModel" ⟨"EchoFairModel", "areBoth", "(II)Z"⟩ ⟨"EchoFairModel", "areBoth", "(II)Z"⟩) ∈ ALL := all_s (i := 108) rfl rfl
theorem wq_109 : (Cond.selects "EchoFairModel" ⟨"EchoFairModel", "valleyAt", "(II)I"⟩ ⟨"EchoFairModel", "valleyAt", "(II)I"⟩) ∈ ALL := all_s (i := 109) rfl rfl
theorem wq_110 : (Cond.selects "EchoFairModel" ⟨"EchoFairModel", "echoAt", "(II)I"⟩ ⟨"EchoFairModel", "echoAt", "(II)I"⟩) ∈ ALL := all_s (i := 110) rfl rfl
theorem wq_111 : (Cond.selects "EchoFairModel" ⟨"EchoFairModel", "isBlocking", "(II)Z"⟩ ⟨"EchoFairModel", "isBlocking", "(II)Z"⟩) ∈ ALL := all_s (i := 111) rfl rfl
theorem wq_112 : (Cond.selects "EchoFairModel" ⟨"EchoFairModel", "wouldLeave", "(II)Z"⟩ ⟨"EchoFairModel", "wouldLeave", "(II)Z"⟩) ∈ ALL := all_s (i := 112) rfl rfl
theorem wq_113 : (Cond.selects "EchoFairModel" ⟨"EchoFairModel", "wouldTake", "(II)Z"⟩ ⟨"EchoFairModel", "wouldTake", "(II)Z"⟩) ∈ ALL := all_s (i := 113) rfl rfl
theorem wq_114 : (Cond.selects "EchoFairModel" ⟨"EchoFairModel", "resultOf", "(I)I"⟩ ⟨"EchoFairModel", "resultOf", "(I)I"⟩) ∈ ALL := all_s (i := 114) rfl rfl
theorem wq_115 : (Cond.selects "EchoFairModel" ⟨"EchoFairModel", "tries", "()V"⟩ ⟨"EchoFairModel", "tries", "()V"⟩) ∈ ALL := all_s (i := 115) rfl rfl
theorem wq_116 : (Cond.selects "EchoFairModel" ⟨"EchoFairModel", "laidBack", "(I)I"⟩ ⟨"EchoFairModel", "laidBack", "(I)I"⟩) ∈ ALL := all_s (i := 116) rfl rfl
theorem wq_117 : (Cond.selects "EchoFairModel" ⟨"EchoFairModel", "passesBoth", "(ZZ)Z"⟩ ⟨"EchoFairModel", "passesBoth", "(ZZ)Z"⟩) ∈ ALL := all_s (i := 117) rfl rfl
theorem wq_118 : (Cond.selects "EchoFairModel" ⟨"EchoFairModel", "purses", "()I"⟩ ⟨"EchoFairModel", "purses", "()I"⟩) ∈ ALL := all_s (i := 118) rfl rfl
theorem wq_119 : (Cond.selects "EchoFairModel" ⟨"EchoFairModel", "savings", "()I"⟩ ⟨"EchoFairModel", "savings", "()I"⟩) ∈ ALL := all_s (i := 119) rfl rfl
theorem wq_120 : (Cond.selects "EchoFairModel" ⟨"EchoFairModel", "contracts", "()I"⟩ ⟨"EchoFairModel", "contracts", "()I"⟩) ∈ ALL := all_s (i := 120) rfl rfl
theorem wq_121 : (Cond.selects "EchoFairModel" ⟨"EchoFairModel", "servedBy", "(I)I"⟩ ⟨"EchoFairModel", "servedBy", "(I)I"⟩) ∈ ALL := all_s (i := 121) rfl rfl
theorem wq_122 : (Cond.selects "EchoFairModel" ⟨"EchoFairModel", "tried", "(Z)Z"⟩ ⟨"EchoFairModel", "tried", "(Z)Z"⟩) ∈ ALL := all_s (i := 122) rfl rfl
theorem wq_123 : (Cond.selects "EchoFairModel" ⟨"EchoFairModel", "done", "(Z)I"⟩ ⟨"EchoFairModel", "done", "(Z)I"⟩) ∈ ALL := all_s (i := 123) rfl rfl
theorem wq_124 : (Cond.selects "EchoFairModel" ⟨"EchoFairModel", "writes", "(I)V"⟩ ⟨"EchoFairModel", "writes", "(I)V"⟩) ∈ ALL := all_s (i := 124) rfl rfl
theorem wq_125 : (Cond.selects "EchoFairModel" ⟨"EchoFairModel", "writesName", "(I)V"⟩ ⟨"EchoFairModel", "writesName", "(I)V"⟩) ∈ ALL := all_s (i := 125) rfl rfl
theorem wu_0 : ∀ w ∈ u_ws RX0 TX0 2, w ∈ ALL := by
  intro w hw
  obtain ⟨k, hk, rfl⟩ := List.mem_map.mp hw
  have hk := List.mem_range.mp hk
  exact match k, hk with
  | 0, _ => wd_47
  | 1, _ => wd_49
  | k + 2, h => absurd h (by omega)
def dfA_0 : List AV := [vW 0, vI 0]
def dfV_0 : List Value := [.null, .int 0]
theorem df_0 : ∀ j, j < 2 → defaultValue (tyX0 j) = vp_V dfV_0 j := by decide +kernel
theorem dc_0 {G : Gam} {ρ : List Nat} : czs G ρ dfA_0 dfV_0 := ⟨Or.inl ⟨rfl, rfl⟩, rfl, trivial⟩
theorem wu_1 : ∀ w ∈ u_ws RX1 TX1 5, w ∈ ALL := by
  intro w hw
  obtain ⟨k, hk, rfl⟩ := List.mem_map.mp hw
  have hk := List.mem_range.mp hk
  exact match k, hk with
  | 0, _ => wd_373
  | 1, _ => wd_375
  | 2, _ => wd_377
  | 3, _ => wd_379
  | 4, _ => wd_381
  | k + 5, h => absurd h (by omega)
def dfA_1 : List AV := [vW 0, vW 0, vW 0, vW 0, vI 0]
def dfV_1 : List Value := [.null, .null, .null, .null, .int 0]
theorem df_1 : ∀ j, j < 5 → defaultValue (tyX1 j) = vp_V dfV_1 j := by decide +kernel
theorem dc_1 {G : Gam} {ρ : List Nat} : czs G ρ dfA_1 dfV_1 := ⟨Or.inl ⟨rfl, rfl⟩, Or.inl ⟨rfl, rfl⟩, Or.inl ⟨rfl, rfl⟩, Or.inl ⟨rfl, rfl⟩, rfl, trivial⟩
theorem wu_2 : ∀ w ∈ u_ws RX2 TX2 3, w ∈ ALL := by
  intro w hw
  obtain ⟨k, hk, rfl⟩ := List.mem_map.mp hw
  have hk := List.mem_range.mp hk
  exact match k, hk with
  | 0, _ => wd_351
  | 1, _ => wd_353
  | 2, _ => wd_355
  | k + 3, h => absurd h (by omega)
def dfA_2 : List AV := [vW 0, vW 0, vW 0]
def dfV_2 : List Value := [.null, .null, .null]
theorem df_2 : ∀ j, j < 3 → defaultValue (tyX2 j) = vp_V dfV_2 j := by decide +kernel
theorem dc_2 {G : Gam} {ρ : List Nat} : czs G ρ dfA_2 dfV_2 := ⟨Or.inl ⟨rfl, rfl⟩, Or.inl ⟨rfl, rfl⟩, Or.inl ⟨rfl, rfl⟩, trivial⟩
theorem wu_3 : ∀ w ∈ u_ws RX3 TX3 9, w ∈ ALL := by
  intro w hw
  obtain ⟨k, hk, rfl⟩ := List.mem_map.mp hw
  have hk := List.mem_range.mp hk
  exact match k, hk with
  | 0, _ => wd_119
  | 1, _ => wd_121
  | 2, _ => wd_123
  | 3, _ => wd_125
  | 4, _ => wd_127
  | 5, _ => wd_129
  | 6, _ => wd_131
  | 7, _ => wd_133
  | 8, _ => wd_135
  | k + 9, h => absurd h (by omega)
def dfA_3 : List AV := [vJ 0, vI 0, vI 0, vI 0, vI 0, vI 0, vI 0, vI 0, vI 0]
def dfV_3 : List Value := [.long 0, .int 0, .int 0, .int 0, .int 0, .int 0, .int 0, .int 0, .int 0]
theorem df_3 : ∀ j, j < 9 → defaultValue (tyX3 j) = vp_V dfV_3 j := by decide +kernel
theorem dc_3 {G : Gam} {ρ : List Nat} : czs G ρ dfA_3 dfV_3 := ⟨rfl, rfl, rfl, rfl, rfl, rfl, rfl, rfl, rfl, trivial⟩
theorem wu_4 : ∀ w ∈ u_ws RX4 TX4 3, w ∈ ALL := by
  intro w hw
  obtain ⟨k, hk, rfl⟩ := List.mem_map.mp hw
  have hk := List.mem_range.mp hk
  exact match k, hk with
  | 0, _ => wd_273
  | 1, _ => wd_275
  | 2, _ => wd_277
  | k + 3, h => absurd h (by omega)
def dfA_4 : List AV := [vW 0, vI 0, vI 0]
def dfV_4 : List Value := [.null, .int 0, .int 0]
theorem df_4 : ∀ j, j < 3 → defaultValue (tyX4 j) = vp_V dfV_4 j := by decide +kernel
theorem dc_4 {G : Gam} {ρ : List Nat} : czs G ρ dfA_4 dfV_4 := ⟨Or.inl ⟨rfl, rfl⟩, rfl, rfl, trivial⟩
theorem wu_5 : ∀ w ∈ u_ws RX5 TX5 6, w ∈ ALL := by
  intro w hw
  obtain ⟨k, hk, rfl⟩ := List.mem_map.mp hw
  have hk := List.mem_range.mp hk
  exact match k, hk with
  | 0, _ => wd_292
  | 1, _ => wd_294
  | 2, _ => wd_296
  | 3, _ => wd_298
  | 4, _ => wd_300
  | 5, _ => wd_302
  | k + 6, h => absurd h (by omega)
def dfA_5 : List AV := [vW 0, vW 0, vW 0, vW 0, vW 0, vI 0]
def dfV_5 : List Value := [.null, .null, .null, .null, .null, .int 0]
theorem df_5 : ∀ j, j < 6 → defaultValue (tyX5 j) = vp_V dfV_5 j := by decide +kernel
theorem dc_5 {G : Gam} {ρ : List Nat} : czs G ρ dfA_5 dfV_5 := ⟨Or.inl ⟨rfl, rfl⟩, Or.inl ⟨rfl, rfl⟩, Or.inl ⟨rfl, rfl⟩, Or.inl ⟨rfl, rfl⟩, Or.inl ⟨rfl, rfl⟩, rfl, trivial⟩
theorem wu_6 : ∀ w ∈ u_ws RX6 TX6 3, w ∈ ALL := by
  intro w hw
  obtain ⟨k, hk, rfl⟩ := List.mem_map.mp hw
  have hk := List.mem_range.mp hk
  exact match k, hk with
  | 0, _ => wd_65
  | 1, _ => wd_67
  | 2, _ => wd_69
  | k + 3, h => absurd h (by omega)
def dfA_6 : List AV := [vI 0, vW 0, vI 0]
def dfV_6 : List Value := [.int 0, .null, .int 0]
theorem df_6 : ∀ j, j < 3 → defaultValue (tyX6 j) = vp_V dfV_6 j := by decide +kernel
theorem dc_6 {G : Gam} {ρ : List Nat} : czs G ρ dfA_6 dfV_6 := ⟨rfl, Or.inl ⟨rfl, rfl⟩, rfl, trivial⟩
theorem wu_7 : ∀ w ∈ u_ws RX7 TX7 8, w ∈ ALL := by
  intro w hw
  obtain ⟨k, hk, rfl⟩ := List.mem_map.mp hw
  have hk := List.mem_range.mp hk
  exact match k, hk with
  | 0, _ => wd_325
  | 1, _ => wd_327
  | 2, _ => wd_329
  | 3, _ => wd_331
  | 4, _ => wd_333
  | 5, _ => wd_335
  | 6, _ => wd_337
  | 7, _ => wd_339
  | k + 8, h => absurd h (by omega)
def dfA_7 : List AV := [vW 0, vI 0, vI 0, vI 0, vI 0, vI 0, vI 0, vI 0]
def dfV_7 : List Value := [.null, .int 0, .int 0, .int 0, .int 0, .int 0, .int 0, .int 0]
theorem df_7 : ∀ j, j < 8 → defaultValue (tyX7 j) = vp_V dfV_7 j := by decide +kernel
theorem dc_7 {G : Gam} {ρ : List Nat} : czs G ρ dfA_7 dfV_7 := ⟨Or.inl ⟨rfl, rfl⟩, rfl, rfl, rfl, rfl, rfl, rfl, rfl, trivial⟩
theorem wu_8 : ∀ w ∈ u_ws RX8 TX8 12, w ∈ ALL := by
  intro w hw
  obtain ⟨k, hk, rfl⟩ := List.mem_map.mp hw
  have hk := List.mem_range.mp hk
  exact match k, hk with
  | 0, _ => wd_181
  | 1, _ => wd_183
  | 2, _ => wd_185
  | 3, _ => wd_187
  | 4, _ => wd_189
  | 5, _ => wd_191
  | 6, _ => wd_193
  | 7, _ => wd_195
  | 8, _ => wd_197
  | 9, _ => wd_199
  | 10, _ => wd_201
  | 11, _ => wd_203
  | k + 12, h => absurd h (by omega)
def dfA_8 : List AV := [vJ 0, vI 0, vI 0, vI 0, vI 0, vW 0, vI 0, vI 0, vI 0, vW 0, vI 0, vI 0]
def dfV_8 : List Value := [.long 0, .int 0, .int 0, .int 0, .int 0, .null, .int 0, .int 0, .int 0, .null, .int 0, .int 0]
theorem df_8 : ∀ j, j < 12 → defaultValue (tyX8 j) = vp_V dfV_8 j := by decide +kernel
theorem dc_8 {G : Gam} {ρ : List Nat} : czs G ρ dfA_8 dfV_8 := ⟨rfl, rfl, rfl, rfl, rfl, Or.inl ⟨rfl, rfl⟩, rfl, rfl, rfl, Or.inl ⟨rfl, rfl⟩, rfl, rfl, trivial⟩
theorem wu_9 : ∀ w ∈ u_ws RX9 TX9 11, w ∈ ALL := by
  intro w hw
  obtain ⟨k, hk, rfl⟩ := List.mem_map.mp hw
  have hk := List.mem_range.mp hk
  exact match k, hk with
  | 0, _ => wd_237
  | 1, _ => wd_239
  | 2, _ => wd_241
  | 3, _ => wd_243
  | 4, _ => wd_245
  | 5, _ => wd_247
  | 6, _ => wd_249
  | 7, _ => wd_251
  | 8, _ => wd_253
  | 9, _ => wd_255
  | 10, _ => wd_257
  | k + 11, h => absurd h (by omega)
def dfA_9 : List AV := [vW 0, vW 0, vI 0, vI 0, vI 0, vI 0, vI 0, vI 0, vI 0, vI 0, vI 0]
def dfV_9 : List Value := [.null, .null, .int 0, .int 0, .int 0, .int 0, .int 0, .int 0, .int 0, .int 0, .int 0]
theorem df_9 : ∀ j, j < 11 → defaultValue (tyX9 j) = vp_V dfV_9 j := by decide +kernel
theorem dc_9 {G : Gam} {ρ : List Nat} : czs G ρ dfA_9 dfV_9 := ⟨Or.inl ⟨rfl, rfl⟩, Or.inl ⟨rfl, rfl⟩, rfl, rfl, rfl, rfl, rfl, rfl, rfl, rfl, rfl, trivial⟩
theorem wu_10 : ∀ w ∈ u_ws RX10 TX10 15, w ∈ ALL := by
  intro w hw
  obtain ⟨k, hk, rfl⟩ := List.mem_map.mp hw
  have hk := List.mem_range.mp hk
  exact match k, hk with
  | 0, _ => wd_613
  | 1, _ => wd_615
  | 2, _ => wd_617
  | 3, _ => wd_619
  | 4, _ => wd_621
  | 5, _ => wd_623
  | 6, _ => wd_625
  | 7, _ => wd_627
  | 8, _ => wd_629
  | 9, _ => wd_631
  | 10, _ => wd_633
  | 11, _ => wd_635
  | 12, _ => wd_637
  | 13, _ => wd_639
  | 14, _ => wd_641
  | k + 15, h => absurd h (by omega)
def dfA_10 : List AV := [vW 0, vW 0, vW 0, vW 0, vW 0, vW 0, vW 0, vI 0, vW 0, vW 0, vW 0, vW 0, vW 0, vI 0, vI 0]
def dfV_10 : List Value := [.null, .null, .null, .null, .null, .null, .null, .int 0, .null, .null, .null, .null, .null, .int 0, .int 0]
theorem df_10 : ∀ j, j < 15 → defaultValue (tyX10 j) = vp_V dfV_10 j := by decide +kernel
theorem dc_10 {G : Gam} {ρ : List Nat} : czs G ρ dfA_10 dfV_10 := ⟨Or.inl ⟨rfl, rfl⟩, Or.inl ⟨rfl, rfl⟩, Or.inl ⟨rfl, rfl⟩, Or.inl ⟨rfl, rfl⟩, Or.inl ⟨rfl, rfl⟩, Or.inl ⟨rfl, rfl⟩, Or.inl ⟨rfl, rfl⟩, rfl, Or.inl ⟨rfl, rfl⟩, Or.inl ⟨rfl, rfl⟩, Or.inl ⟨rfl, rfl⟩, Or.inl ⟨rfl, rfl⟩, Or.inl ⟨rfl, rfl⟩, rfl, rfl, trivial⟩
theorem wu_11 : ∀ w ∈ u_ws RX11 TX11 28, w ∈ ALL := by
  intro w hw
  obtain ⟨k, hk, rfl⟩ := List.mem_map.mp hw
  have hk := List.mem_range.mp hk
  exact match k, hk with
  | 0, _ => wd_1570
  | 1, _ => wd_1572
  | 2, _ => wd_1574
  | 3, _ => wd_1576
  | 4, _ => wd_1578
  | 5, _ => wd_1580
  | 6, _ => wd_1582
  | 7, _ => wd_1584
  | 8, _ => wd_1586
  | 9, _ => wd_1588
  | 10, _ => wd_1590
  | 11, _ => wd_1592
  | 12, _ => wd_1594
  | 13, _ => wd_1596
  | 14, _ => wd_1598
  | 15, _ => wd_1600
  | 16, _ => wd_1602
  | 17, _ => wd_1604
  | 18, _ => wd_1606
  | 19, _ => wd_1608
  | 20, _ => wd_1610
  | 21, _ => wd_1612
  | 22, _ => wd_1614
  | 23, _ => wd_1616
  | 24, _ => wd_1618
  | 25, _ => wd_1620
  | 26, _ => wd_1622
  | 27, _ => wd_1624
  | k + 28, h => absurd h (by omega)
def dfA_11 : List AV := [vW 0, vW 0, vW 0, vW 0, vW 0, vI 0, vI 0, vI 0, vW 0, vW 0, vW 0, vW 0, vI 0, vI 0, vI 0, vW 0, vI 0, vI 0, vI 0, vI 0, vI 0, vI 0, vI 0, vI 0, vW 0, vI 0, vW 0, vI 0]
def dfV_11 : List Value := [.null, .null, .null, .null, .null, .int 0, .int 0, .int 0, .null, .null, .null, .null, .int 0, .int 0, .int 0, .null, .int 0, .int 0, .int 0, .int 0, .int 0, .int 0, .int 0, .int 0, .null, .int 0, .null, .int 0]
theorem df_11 : ∀ j, j < 28 → defaultValue (tyX11 j) = vp_V dfV_11 j := by decide +kernel
theorem dc_11 {G : Gam} {ρ : List Nat} : czs G ρ dfA_11 dfV_11 := ⟨Or.inl ⟨rfl, rfl⟩, Or.inl ⟨rfl, rfl⟩, Or.inl ⟨rfl, rfl⟩, Or.inl ⟨rfl, rfl⟩, Or.inl ⟨rfl, rfl⟩, rfl, rfl, rfl, Or.inl ⟨rfl, rfl⟩, Or.inl ⟨rfl, rfl⟩, Or.inl ⟨rfl, rfl⟩, Or.inl ⟨rfl, rfl⟩, rfl, rfl, rfl, Or.inl ⟨rfl, rfl⟩, rfl, rfl, rfl, rfl, rfl, rfl, rfl, rfl, Or.inl ⟨rfl, rfl⟩, rfl, Or.inl ⟨rfl, rfl⟩, rfl, trivial⟩
noncomputable abbrev w9_X0_init : List Cond := .code yX0_init cX0_init 2 none :: ALL
abbrev r9_X0_init : Room := { frames := 1, cells := 901, slots := 901, locals := 21 }
theorem cf_X0_init : (.instanceMethod yX0_init : Cond) ∈ ALL ∧ (.initialized RX0 : Cond) ∈ ALL ∧ (.code yX0_init cX0_init 2 none : Cond) ∈ ALL ∧ (.initialized RX0 : Cond) ∈ ALL := ⟨wd_36, wd_2, wd_37, wd_2⟩
noncomputable abbrev w9_X0_add : List Cond := .code yX0_add cX0_add 2 none :: ALL
abbrev r9_X0_add : Room := { frames := 0, cells := 0, slots := 0, locals := 0 }
theorem cf_X0_add : (.instanceMethod yX0_add : Cond) ∈ ALL ∧ (.selects RX0 yX0_add yX0_add : Cond) ∈ ALL ∧ (.code yX0_add cX0_add 2 none : Cond) ∈ ALL ∧ (.initialized RX0 : Cond) ∈ ALL := ⟨wd_434, wd_435, wd_436, wd_2⟩
noncomputable abbrev w9_X0_addInt : List Cond := .code yX0_addInt cX0_addInt 2 none :: ALL
abbrev r9_X0_addInt : Room := { frames := 1, cells := 0, slots := 0, locals := 21 }
theorem cf_X0_addInt : (.instanceMethod yX0_addInt : Cond) ∈ ALL ∧ (.selects RX0 yX0_addInt yX0_addInt : Cond) ∈ ALL ∧ (.code yX0_addInt cX0_addInt 2 none : Cond) ∈ ALL ∧ (.initialized RX0 : Cond) ∈ ALL := ⟨wd_932, wd_933, wd_934, wd_2⟩
noncomputable abbrev w9_X0_addName : List Cond := .code yX0_addName cX0_addName 5 none :: ALL
abbrev r9_X0_addName : Room := { frames := 1, cells := 0, slots := 0, locals := 21 }
theorem cf_X0_addName : (.instanceMethod yX0_addName : Cond) ∈ ALL ∧ (.selects RX0 yX0_addName yX0_addName : Cond) ∈ ALL ∧ (.code yX0_addName cX0_addName 5 none : Cond) ∈ ALL ∧ (.initialized RX0 : Cond) ∈ ALL := ⟨wd_848, wd_849, wd_850, wd_2⟩
noncomputable abbrev w9_X0_byteAt : List Cond := .code yX0_byteAt cX0_byteAt 2 (some .int) :: ALL
abbrev r9_X0_byteAt : Room := { frames := 0, cells := 0, slots := 0, locals := 0 }
theorem cf_X0_byteAt : (.instanceMethod yX0_byteAt : Cond) ∈ ALL ∧ (.selects RX0 yX0_byteAt yX0_byteAt : Cond) ∈ ALL ∧ (.code yX0_byteAt cX0_byteAt 2 (some .int) : Cond) ∈ ALL ∧ (.initialized RX0 : Cond) ∈ ALL := ⟨wd_463, wd_464, wd_465, wd_2⟩
noncomputable abbrev w9_X0_nameAt : List Cond := .code yX0_nameAt cX0_nameAt 7 (some .long) :: ALL
abbrev r9_X0_nameAt : Room := { frames := 1, cells := 0, slots := 0, locals := 21 }
theorem cf_X0_nameAt : (.instanceMethod yX0_nameAt : Cond) ∈ ALL ∧ (.selects RX0 yX0_nameAt yX0_nameAt : Cond) ∈ ALL ∧ (.code yX0_nameAt cX0_nameAt 7 (some .long) : Cond) ∈ ALL ∧ (.initialized RX0 : Cond) ∈ ALL := ⟨wd_530, wd_531, wd_532, wd_2⟩
noncomputable abbrev w9_X1_init : List Cond := .code yX1_init cX1_init 2 none :: ALL
abbrev r9_X1_init : Room := { frames := 1, cells := 93, slots := 93, locals := 12 }
theorem cf_X1_init : (.instanceMethod yX1_init : Cond) ∈ ALL ∧ (.initialized RX1 : Cond) ∈ ALL ∧ (.code yX1_init cX1_init 2 none : Cond) ∈ ALL ∧ (.initialized RX1 : Cond) ∈ ALL := ⟨wd_361, wd_12, wd_362, wd_12⟩
noncomputable abbrev w9_X1_parse : List Cond := .code yX1_parse cX1_parse 4 (some .boolean) :: ALL
abbrev r9_X1_parse : Room := { frames := 6, cells := 0, slots := 0, locals := 127 }
theorem cf_X1_parse : (.instanceMethod yX1_parse : Cond) ∈ ALL ∧ (.selects RX1 yX1_parse yX1_parse : Cond) ∈ ALL ∧ (.code yX1_parse cX1_parse 4 (some .boolean) : Cond) ∈ ALL ∧ (.initialized RX1 : Cond) ∈ ALL := ⟨wd_979, wd_980, wd_981, wd_12⟩
noncomputable abbrev w9_X1_verbRead : List Cond := .code yX1_verbRead cX1_verbRead 1 (some .int) :: ALL
abbrev r9_X1_verbRead : Room := { frames := 5, cells := 0, slots := 0, locals := 107 }
theorem cf_X1_verbRead : (.instanceMethod yX1_verbRead : Cond) ∈ ALL ∧ (.selects RX1 yX1_verbRead yX1_verbRead : Cond) ∈ ALL ∧ (.code yX1_verbRead cX1_verbRead 1 (some .int) : Cond) ∈ ALL ∧ (.initialized RX1 : Cond) ∈ ALL := ⟨wd_986, wq_20, wd_987, wd_12⟩
noncomputable abbrev w9_X1_takeParameters : List Cond := .code yX1_takeParameters cX1_takeParameters 4 (some .boolean) :: ALL
abbrev r9_X1_takeParameters : Room := { frames := 4, cells := 0, slots := 0, locals := 91 }
theorem cf_X1_takeParameters : (.instanceMethod yX1_takeParameters : Cond) ∈ ALL ∧ (.selects RX1 yX1_takeParameters yX1_takeParameters : Cond) ∈ ALL ∧ (.code yX1_takeParameters cX1_takeParameters 4 (some .boolean) : Cond) ∈ ALL ∧ (.initialized RX1 : Cond) ∈ ALL := ⟨wd_999, wq_21, wd_1000, wd_12⟩
noncomputable abbrev w9_X1_takeValleyAndMore : List Cond := .code yX1_takeValleyAndMore cX1_takeValleyAndMore 4 (some .boolean) :: ALL
abbrev r9_X1_takeValleyAndMore : Room := { frames := 3, cells := 0, slots := 0, locals := 68 }
theorem cf_X1_takeValleyAndMore : (.instanceMethod yX1_takeValleyAndMore : Cond) ∈ ALL ∧ (.selects RX1 yX1_takeValleyAndMore yX1_takeValleyAndMore : Cond) ∈ ALL ∧ (.code yX1_takeValleyAndMore cX1_takeValleyAndMore 4 (some .boolean) : Cond) ∈ ALL ∧ (.initialized RX1 : Cond) ∈ ALL := ⟨wd_1005, wq_22, wd_1006, wd_12⟩
noncomputable abbrev w9_X2_init : List Cond := .code yX2_init cX2_init 4 none :: ALL
abbrev r9_X2_init : Room := { frames := 1, cells := 0, slots := 0, locals := 12 }
theorem cf_X2_init : (.instanceMethod yX2_init : Cond) ∈ ALL ∧ (.initialized RX2 : Cond) ∈ ALL ∧ (.code yX2_init cX2_init 4 none : Cond) ∈ ALL ∧ (.initialized RX2 : Cond) ∈ ALL := ⟨wd_345, wd_11, wd_346, wd_11⟩
noncomputable abbrev w9_X2_parse : List Cond := .code yX2_parse cX2_parse 2 (some .boolean) :: ALL
abbrev r9_X2_parse : Room := { frames := 7, cells := 0, slots := 0, locals := 149 }
theorem cf_X2_parse : (.instanceMethod yX2_parse : Cond) ∈ ALL ∧ (.selects RX2 yX2_parse yX2_parse : Cond) ∈ ALL ∧ (.code yX2_parse cX2_parse 2 (some .boolean) : Cond) ∈ ALL ∧ (.initialized RX2 : Cond) ∈ ALL := ⟨wd_438, wd_439, wd_440, wd_11⟩
noncomputable abbrev w9_X2_isComplete : List Cond := .code yX2_isComplete cX2_isComplete 1 (some .boolean) :: ALL
abbrev r9_X2_isComplete : Room := { frames := 1, cells := 0, slots := 0, locals := 21 }
theorem cf_X2_isComplete : (.instanceMethod yX2_isComplete : Cond) ∈ ALL ∧ (.selects RX2 yX2_isComplete yX2_isComplete : Cond) ∈ ALL ∧ (.code yX2_isComplete cX2_isComplete 1 (some .boolean) : Cond) ∈ ALL ∧ (.initialized RX2 : Cond) ∈ ALL := ⟨wd_505, wq_2, wd_506, wd_11⟩
noncomputable abbrev w9_X2_takeSeason : List Cond := .code yX2_takeSeason cX2_takeSeason 1 (some .boolean) :: ALL
abbrev r9_X2_takeSeason : Room := { frames := 6, cells := 0, slots := 0, locals := 128 }
theorem cf_X2_takeSeason : (.instanceMethod yX2_takeSeason : Cond) ∈ ALL ∧ (.selects RX2 yX2_takeSeason yX2_takeSeason : Cond) ∈ ALL ∧ (.code yX2_takeSeason cX2_takeSeason 1 (some .boolean) : Cond) ∈ ALL ∧ (.initialized RX2 : Cond) ∈ ALL := ⟨wd_451, wq_0, wd_452, wd_11⟩
noncomputable abbrev w9_X2_takeFog : List Cond := .code yX2_takeFog cX2_takeFog 2 (some .boolean) :: ALL
abbrev r9_X2_takeFog : Room := { frames := 6, cells := 0, slots := 0, locals := 128 }
theorem cf_X2_takeFog : (.instanceMethod yX2_takeFog : Cond) ∈ ALL ∧ (.selects RX2 yX2_takeFog yX2_takeFog : Cond) ∈ ALL ∧ (.code yX2_takeFog cX2_takeFog 2 (some .boolean) : Cond) ∈ ALL ∧ (.initialized RX2 : Cond) ∈ ALL := ⟨wd_493, wq_1, wd_494, wd_11⟩
noncomputable abbrev w9_X2_takeStatement : List Cond := .code yX2_takeStatement cX2_takeStatement 1 (some .boolean) :: ALL
abbrev r9_X2_takeStatement : Room := { frames := 5, cells := 0, slots := 0, locals := 107 }
theorem cf_X2_takeStatement : (.instanceMethod yX2_takeStatement : Cond) ∈ ALL ∧ (.selects RX2 yX2_takeStatement yX2_takeStatement : Cond) ∈ ALL ∧ (.code yX2_takeStatement cX2_takeStatement 1 (some .boolean) : Cond) ∈ ALL ∧ (.initialized RX2 : Cond) ∈ ALL := ⟨wd_509, wq_3, wd_510, wd_11⟩
noncomputable abbrev w9_X2_takeNewEcho : List Cond := .code yX2_takeNewEcho cX2_takeNewEcho 2 (some .boolean) :: ALL
abbrev r9_X2_takeNewEcho : Room := { frames := 3, cells := 0, slots := 0, locals := 67 }
theorem cf_X2_takeNewEcho : (.instanceMethod yX2_takeNewEcho : Cond) ∈ ALL ∧ (.selects RX2 yX2_takeNewEcho yX2_takeNewEcho : Cond) ∈ ALL ∧ (.code yX2_takeNewEcho cX2_takeNewEcho 2 (some .boolean) : Cond) ∈ ALL ∧ (.initialized RX2 : Cond) ∈ ALL := ⟨wd_515, wq_4, wd_516, wd_11⟩
noncomputable abbrev w9_X2_takeNewValley : List Cond := .code yX2_takeNewValley cX2_takeNewValley 2 (some .boolean) :: ALL
abbrev r9_X2_takeNewValley : Room := { frames := 3, cells := 0, slots := 0, locals := 67 }
theorem cf_X2_takeNewValley : (.instanceMethod yX2_takeNewValley : Cond) ∈ ALL ∧ (.selects RX2 yX2_takeNewValley yX2_takeNewValley : Cond) ∈ ALL ∧ (.code yX2_takeNewValley cX2_takeNewValley 2 (some .boolean) : Cond) ∈ ALL ∧ (.initialized RX2 : Cond) ∈ ALL := ⟨wd_545, wq_6, wd_546, wd_11⟩
noncomputable abbrev w9_X2_takeTest : List Cond := .code yX2_takeTest cX2_takeTest 2 (some .boolean) :: ALL
abbrev r9_X2_takeTest : Room := { frames := 3, cells := 0, slots := 0, locals := 68 }
theorem cf_X2_takeTest : (.instanceMethod yX2_takeTest : Cond) ∈ ALL ∧ (.selects RX2 yX2_takeTest yX2_takeTest : Cond) ∈ ALL ∧ (.code yX2_takeTest cX2_takeTest 2 (some .boolean) : Cond) ∈ ALL ∧ (.initialized RX2 : Cond) ∈ ALL := ⟨wd_558, wq_7, wd_559, wd_11⟩
noncomputable abbrev w9_X3_init : List Cond := .code yX3_init cX3_init 1 none :: ALL
abbrev r9_X3_init : Room := { frames := 1, cells := 0, slots := 0, locals := 12 }
theorem cf_X3_init : (.instanceMethod yX3_init : Cond) ∈ ALL ∧ (.initialized RX3 : Cond) ∈ ALL ∧ (.code yX3_init cX3_init 1 none : Cond) ∈ ALL ∧ (.initialized RX3 : Cond) ∈ ALL := ⟨wd_85, wd_6, wd_86, wd_6⟩
noncomputable abbrev w9_X3_start : List Cond := .code yX3_start cX3_start 3 none :: ALL
abbrev r9_X3_start : Room := { frames := 0, cells := 0, slots := 0, locals := 0 }
theorem cf_X3_start : (.instanceMethod yX3_start : Cond) ∈ ALL ∧ (.selects RX3 yX3_start yX3_start : Cond) ∈ ALL ∧ (.code yX3_start cX3_start 3 none : Cond) ∈ ALL ∧ (.initialized RX3 : Cond) ∈ ALL := ⟨wd_539, wd_540, wd_541, wd_6⟩
noncomputable abbrev w9_X3_copyFrom : List Cond := .code yX3_copyFrom cX3_copyFrom 2 none :: ALL
abbrev r9_X3_copyFrom : Room := { frames := 0, cells := 0, slots := 0, locals := 0 }
theorem cf_X3_copyFrom : (.instanceMethod yX3_copyFrom : Cond) ∈ ALL ∧ (.selects RX3 yX3_copyFrom yX3_copyFrom : Cond) ∈ ALL ∧ (.code yX3_copyFrom cX3_copyFrom 2 none : Cond) ∈ ALL ∧ (.initialized RX3 : Cond) ∈ ALL := ⟨wd_583, wd_584, wd_585, wd_6⟩
noncomputable abbrev w9_X3_lessonPrice : List Cond := .code yX3_lessonPrice cX3_lessonPrice 1 (some .int) :: ALL
abbrev r9_X3_lessonPrice : Room := { frames := 0, cells := 0, slots := 0, locals := 0 }
theorem cf_X3_lessonPrice : (.instanceMethod yX3_lessonPrice : Cond) ∈ ALL ∧ (.selects RX3 yX3_lessonPrice yX3_lessonPrice : Cond) ∈ ALL ∧ (.code yX3_lessonPrice cX3_lessonPrice 1 (some .int) : Cond) ∈ ALL ∧ (.initialized RX3 : Cond) ∈ ALL := ⟨wd_1076, wd_1077, wd_1078, wd_6⟩
noncomputable abbrev w9_X3_canLearn : List Cond := .code yX3_canLearn cX3_canLearn 1 (some .boolean) :: ALL
abbrev r9_X3_canLearn : Room := { frames := 1, cells := 0, slots := 0, locals := 20 }
theorem cf_X3_canLearn : (.instanceMethod yX3_canLearn : Cond) ∈ ALL ∧ (.selects RX3 yX3_canLearn yX3_canLearn : Cond) ∈ ALL ∧ (.code yX3_canLearn cX3_canLearn 1 (some .boolean) : Cond) ∈ ALL ∧ (.initialized RX3 : Cond) ∈ ALL := ⟨wd_1072, wd_1073, wd_1074, wd_6⟩
noncomputable abbrev w9_X3_leavesIn : List Cond := .code yX3_leavesIn cX3_leavesIn 2 (some .boolean) :: ALL
abbrev r9_X3_leavesIn : Room := { frames := 0, cells := 0, slots := 0, locals := 0 }
theorem cf_X3_leavesIn : (.instanceMethod yX3_leavesIn : Cond) ∈ ALL ∧ (.selects RX3 yX3_leavesIn yX3_leavesIn : Cond) ∈ ALL ∧ (.code yX3_leavesIn cX3_leavesIn 2 (some .boolean) : Cond) ∈ ALL ∧ (.initialized RX3 : Cond) ∈ ALL := ⟨wd_1058, wd_1059, wd_1060, wd_6⟩
noncomputable abbrev w9_X4_init : List Cond := .code yX4_init cX4_init 2 none :: ALL
abbrev r9_X4_init : Room := { frames := 3, cells := 3161, slots := 3161, locals := 53 }
theorem cf_X4_init : (.instanceMethod yX4_init : Cond) ∈ ALL ∧ (.initialized RX4 : Cond) ∈ ALL ∧ (.code yX4_init cX4_init 2 none : Cond) ∈ ALL ∧ (.initialized RX4 : Cond) ∈ ALL := ⟨wd_263, wd_8, wd_264, wd_8⟩
noncomputable abbrev w9_X4_push : List Cond := .code yX4_push cX4_push 2 none :: ALL
abbrev r9_X4_push : Room := { frames := 3, cells := 0, slots := 0, locals := 69 }
theorem cf_X4_push : (.instanceMethod yX4_push : Cond) ∈ ALL ∧ (.selects RX4 yX4_push yX4_push : Cond) ∈ ALL ∧ (.code yX4_push cX4_push 2 none : Cond) ∈ ALL ∧ (.initialized RX4 : Cond) ∈ ALL := ⟨wd_784, wd_785, wd_786, wd_8⟩
noncomputable abbrev w9_X4_pop : List Cond := .code yX4_pop cX4_pop 2 none :: ALL
abbrev r9_X4_pop : Room := { frames := 3, cells := 0, slots := 0, locals := 69 }
theorem cf_X4_pop : (.instanceMethod yX4_pop : Cond) ∈ ALL ∧ (.selects RX4 yX4_pop yX4_pop : Cond) ∈ ALL ∧ (.code yX4_pop cX4_pop 2 none : Cond) ∈ ALL ∧ (.initialized RX4 : Cond) ∈ ALL := ⟨wd_1400, wd_1401, wd_1402, wd_8⟩
noncomputable abbrev w9_X5_init : List Cond := .code yX5_init cX5_init 1 none :: ALL
abbrev r9_X5_init : Room := { frames := 1, cells := 241, slots := 241, locals := 12 }
theorem cf_X5_init : (.instanceMethod yX5_init : Cond) ∈ ALL ∧ (.initialized RX5 : Cond) ∈ ALL ∧ (.code yX5_init cX5_init 1 none : Cond) ∈ ALL ∧ (.initialized RX5 : Cond) ∈ ALL := ⟨wd_283, wd_9, wd_284, wd_9⟩
noncomputable abbrev w9_X5_hold : List Cond := .code yX5_hold cX5_hold 5 (some .int) :: ALL
abbrev r9_X5_hold : Room := { frames := 3, cells := 0, slots := 0, locals := 73 }
theorem cf_X5_hold : (.instanceMethod yX5_hold : Cond) ∈ ALL ∧ (.selects RX5 yX5_hold yX5_hold : Cond) ∈ ALL ∧ (.code yX5_hold cX5_hold 5 (some .int) : Cond) ∈ ALL ∧ (.initialized RX5 : Cond) ∈ ALL := ⟨wd_789, wd_790, wd_791, wd_9⟩
noncomputable abbrev w9_X5_enrol : List Cond := .code yX5_enrol cX5_enrol 3 none :: ALL
abbrev r9_X5_enrol : Room := { frames := 1, cells := 0, slots := 0, locals := 21 }
theorem cf_X5_enrol : (.instanceMethod yX5_enrol : Cond) ∈ ALL ∧ (.selects RX5 yX5_enrol yX5_enrol : Cond) ∈ ALL ∧ (.code yX5_enrol cX5_enrol 3 none : Cond) ∈ ALL ∧ (.initialized RX5 : Cond) ∈ ALL := ⟨wd_794, wq_9, wd_795, wd_9⟩
noncomputable abbrev w9_X5_weigh : List Cond := .code yX5_weigh cX5_weigh 5 none :: ALL
abbrev r9_X5_weigh : Room := { frames := 2, cells := 0, slots := 0, locals := 45 }
theorem cf_X5_weigh : (.instanceMethod yX5_weigh : Cond) ∈ ALL ∧ (.selects RX5 yX5_weigh yX5_weigh : Cond) ∈ ALL ∧ (.code yX5_weigh cX5_weigh 5 none : Cond) ∈ ALL ∧ (.initialized RX5 : Cond) ∈ ALL := ⟨wd_802, wq_11, wd_803, wd_9⟩
noncomputable abbrev w9_X5_enqueue : List Cond := .code yX5_enqueue cX5_enqueue 2 none :: ALL
abbrev r9_X5_enqueue : Room := { frames := 0, cells := 0, slots := 0, locals := 0 }
theorem cf_X5_enqueue : (.instanceMethod yX5_enqueue : Cond) ∈ ALL ∧ (.selects RX5 yX5_enqueue yX5_enqueue : Cond) ∈ ALL ∧ (.code yX5_enqueue cX5_enqueue 2 none : Cond) ∈ ALL ∧ (.initialized RX5 : Cond) ∈ ALL := ⟨wd_798, wq_10, wd_799, wd_9⟩
noncomputable abbrev w9_X5_favourite : List Cond := .code yX5_favourite cX5_favourite 6 (some .int) :: ALL
abbrev r9_X5_favourite : Room := { frames := 1, cells := 0, slots := 0, locals := 24 }
theorem cf_X5_favourite : (.instanceMethod yX5_favourite : Cond) ∈ ALL ∧ (.selects RX5 yX5_favourite yX5_favourite : Cond) ∈ ALL ∧ (.code yX5_favourite cX5_favourite 6 (some .int) : Cond) ∈ ALL ∧ (.initialized RX5 : Cond) ∈ ALL := ⟨wd_808, wq_12, wd_809, wd_9⟩
noncomputable abbrev w9_X5_apply : List Cond := .code yX5_apply cX5_apply 5 none :: ALL
abbrev r9_X5_apply : Room := { frames := 2, cells := 0, slots := 0, locals := 49 }
theorem cf_X5_apply : (.instanceMethod yX5_apply : Cond) ∈ ALL ∧ (.selects RX5 yX5_apply yX5_apply : Cond) ∈ ALL ∧ (.code yX5_apply cX5_apply 5 none : Cond) ∈ ALL ∧ (.initialized RX5 : Cond) ∈ ALL := ⟨wd_813, wq_13, wd_814, wd_9⟩
noncomputable abbrev w9_X5_leastKept : List Cond := .code yX5_leastKept cX5_leastKept 5 (some .int) :: ALL
abbrev r9_X5_leastKept : Room := { frames := 1, cells := 0, slots := 0, locals := 25 }
theorem cf_X5_leastKept : (.instanceMethod yX5_leastKept : Cond) ∈ ALL ∧ (.selects RX5 yX5_leastKept yX5_leastKept : Cond) ∈ ALL ∧ (.code yX5_leastKept cX5_leastKept 5 (some .int) : Cond) ∈ ALL ∧ (.initialized RX5 : Cond) ∈ ALL := ⟨wd_817, wq_14, wd_818, wd_9⟩
noncomputable abbrev w9_X5_prefers : List Cond := .code yX5_prefers cX5_prefers 6 (some .boolean) :: ALL
abbrev r9_X5_prefers : Room := { frames := 0, cells := 0, slots := 0, locals := 0 }
theorem cf_X5_prefers : (.instanceMethod yX5_prefers : Cond) ∈ ALL ∧ (.selects RX5 yX5_prefers yX5_prefers : Cond) ∈ ALL ∧ (.code yX5_prefers cX5_prefers 6 (some .boolean) : Cond) ∈ ALL ∧ (.initialized RX5 : Cond) ∈ ALL := ⟨wd_821, wq_15, wd_822, wd_9⟩
noncomputable abbrev w9_X5_sign : List Cond := .code yX5_sign cX5_sign 5 (some .int) :: ALL
abbrev r9_X5_sign : Room := { frames := 2, cells := 0, slots := 0, locals := 43 }
theorem cf_X5_sign : (.instanceMethod yX5_sign : Cond) ∈ ALL ∧ (.selects RX5 yX5_sign yX5_sign : Cond) ∈ ALL ∧ (.code yX5_sign cX5_sign 5 (some .int) : Cond) ∈ ALL ∧ (.initialized RX5 : Cond) ∈ ALL := ⟨wd_825, wq_16, wd_826, wd_9⟩
noncomputable abbrev w9_X6_init : List Cond := .code yX6_init cX6_init 1 none :: ALL
abbrev r9_X6_init : Room := { frames := 1, cells := 13, slots := 13, locals := 12 }
theorem cf_X6_init : (.instanceMethod yX6_init : Cond) ∈ ALL ∧ (.initialized RX6 : Cond) ∈ ALL ∧ (.code yX6_init cX6_init 1 none : Cond) ∈ ALL ∧ (.initialized RX6 : Cond) ∈ ALL := ⟨wd_56, wd_4, wd_57, wd_4⟩
noncomputable abbrev w9_X6_copyFrom : List Cond := .code yX6_copyFrom cX6_copyFrom 2 none :: ALL
abbrev r9_X6_copyFrom : Room := { frames := 1, cells := 0, slots := 0, locals := 26 }
theorem cf_X6_copyFrom : (.instanceMethod yX6_copyFrom : Cond) ∈ ALL ∧ (.selects RX6 yX6_copyFrom yX6_copyFrom : Cond) ∈ ALL ∧ (.code yX6_copyFrom cX6_copyFrom 2 none : Cond) ∈ ALL ∧ (.initialized RX6 : Cond) ∈ ALL := ⟨wd_594, wd_595, wd_596, wd_4⟩
noncomputable abbrev w9_X6_startsOn : List Cond := .code yX6_startsOn cX6_startsOn 2 (some .boolean) :: ALL
abbrev r9_X6_startsOn : Room := { frames := 0, cells := 0, slots := 0, locals := 0 }
theorem cf_X6_startsOn : (.instanceMethod yX6_startsOn : Cond) ∈ ALL ∧ (.selects RX6 yX6_startsOn yX6_startsOn : Cond) ∈ ALL ∧ (.code yX6_startsOn cX6_startsOn 2 (some .boolean) : Cond) ∈ ALL ∧ (.initialized RX6 : Cond) ∈ ALL := ⟨wd_1019, wd_1020, wd_1021, wd_4⟩
noncomputable abbrev w9_X6_fogOn : List Cond := .code yX6_fogOn cX6_fogOn 2 (some .int) :: ALL
abbrev r9_X6_fogOn : Room := { frames := 1, cells := 0, slots := 0, locals := 22 }
theorem cf_X6_fogOn : (.instanceMethod yX6_fogOn : Cond) ∈ ALL ∧ (.selects RX6 yX6_fogOn yX6_fogOn : Cond) ∈ ALL ∧ (.code yX6_fogOn cX6_fogOn 2 (some .int) : Cond) ∈ ALL ∧ (.initialized RX6 : Cond) ∈ ALL := ⟨wd_1047, wd_1048, wd_1049, wd_4⟩
noncomputable abbrev w9_X6_addLevel : List Cond := .code yX6_addLevel cX6_addLevel 2 none :: ALL
abbrev r9_X6_addLevel : Room := { frames := 0, cells := 0, slots := 0, locals := 0 }
theorem cf_X6_addLevel : (.instanceMethod yX6_addLevel : Cond) ∈ ALL ∧ (.selects RX6 yX6_addLevel yX6_addLevel : Cond) ∈ ALL ∧ (.code yX6_addLevel cX6_addLevel 2 none : Cond) ∈ ALL ∧ (.initialized RX6 : Cond) ∈ ALL := ⟨wd_499, wd_500, wd_501, wd_4⟩
noncomputable abbrev w9_X7_init : List Cond := .code yX7_init cX7_init 2 none :: ALL
abbrev r9_X7_init : Room := { frames := 1, cells := 0, slots := 0, locals := 12 }
theorem cf_X7_init : (.instanceMethod yX7_init : Cond) ∈ ALL ∧ (.initialized RX7 : Cond) ∈ ALL ∧ (.code yX7_init cX7_init 2 none : Cond) ∈ ALL ∧ (.initialized RX7 : Cond) ∈ ALL := ⟨wd_308, wd_10, wd_309, wd_10⟩
noncomputable abbrev w9_X7_begin : List Cond := .code yX7_begin cX7_begin 1 none :: ALL
abbrev r9_X7_begin : Room := { frames := 0, cells := 0, slots := 0, locals := 0 }
theorem cf_X7_begin : (.instanceMethod yX7_begin : Cond) ∈ ALL ∧ (.selects RX7 yX7_begin yX7_begin : Cond) ∈ ALL ∧ (.code yX7_begin cX7_begin 1 none : Cond) ∈ ALL ∧ (.initialized RX7 : Cond) ∈ ALL := ⟨wd_442, wd_443, wd_444, wd_10⟩
noncomputable abbrev w9_X7_fail : List Cond := .code yX7_fail cX7_fail 2 (some .boolean) :: ALL
abbrev r9_X7_fail : Room := { frames := 0, cells := 0, slots := 0, locals := 0 }
theorem cf_X7_fail : (.instanceMethod yX7_fail : Cond) ∈ ALL ∧ (.selects RX7 yX7_fail yX7_fail : Cond) ∈ ALL ∧ (.code yX7_fail cX7_fail 2 (some .boolean) : Cond) ∈ ALL ∧ (.initialized RX7 : Cond) ∈ ALL := ⟨wd_476, wd_477, wd_478, wd_10⟩
noncomputable abbrev w9_X7_kindOf : List Cond := .code yX7_kindOf cX7_kindOf 1 (some .int) :: ALL
abbrev r9_X7_kindOf : Room := { frames := 0, cells := 0, slots := 0, locals := 0 }
theorem cf_X7_kindOf : (.static yX7_kindOf : Cond) ∈ ALL ∧ (.initialized RX7 : Cond) ∈ ALL ∧ (.code yX7_kindOf cX7_kindOf 1 (some .int) : Cond) ∈ ALL ∧ (.initialized RX7 : Cond) ∈ ALL := ⟨wd_467, wd_10, wd_468, wd_10⟩
noncomputable abbrev w9_X7_next : List Cond := .code yX7_next cX7_next 2 none :: ALL
abbrev r9_X7_next : Room := { frames := 1, cells := 0, slots := 0, locals := 21 }
theorem cf_X7_next : (.instanceMethod yX7_next : Cond) ∈ ALL ∧ (.selects RX7 yX7_next yX7_next : Cond) ∈ ALL ∧ (.code yX7_next cX7_next 2 none : Cond) ∈ ALL ∧ (.initialized RX7 : Cond) ∈ ALL := ⟨wd_459, wd_460, wd_461, wd_10⟩
noncomputable abbrev w9_X7_wordIs : List Cond := .code yX7_wordIs cX7_wordIs 3 (some .boolean) :: ALL
abbrev r9_X7_wordIs : Room := { frames := 4, cells := 0, slots := 0, locals := 85 }
theorem cf_X7_wordIs : (.instanceMethod yX7_wordIs : Cond) ∈ ALL ∧ (.selects RX7 yX7_wordIs yX7_wordIs : Cond) ∈ ALL ∧ (.code yX7_wordIs cX7_wordIs 3 (some .boolean) : Cond) ∈ ALL ∧ (.initialized RX7 : Cond) ∈ ALL := ⟨wd_470, wd_471, wd_472, wd_10⟩
noncomputable abbrev w9_X7_name : List Cond := .code yX7_name cX7_name 1 (some .long) :: ALL
abbrev r9_X7_name : Room := { frames := 2, cells := 0, slots := 0, locals := 47 }
theorem cf_X7_name : (.instanceMethod yX7_name : Cond) ∈ ALL ∧ (.selects RX7 yX7_name yX7_name : Cond) ∈ ALL ∧ (.code yX7_name cX7_name 1 (some .long) : Cond) ∈ ALL ∧ (.initialized RX7 : Cond) ∈ ALL := ⟨wd_526, wd_527, wd_528, wd_10⟩
noncomputable abbrev w9_X7_takeWord : List Cond := .code yX7_takeWord cX7_takeWord 2 (some .boolean) :: ALL
abbrev r9_X7_takeWord : Room := { frames := 5, cells := 0, slots := 0, locals := 107 }
theorem cf_X7_takeWord : (.instanceMethod yX7_takeWord : Cond) ∈ ALL ∧ (.selects RX7 yX7_takeWord yX7_takeWord : Cond) ∈ ALL ∧ (.code yX7_takeWord cX7_takeWord 2 (some .boolean) : Cond) ∈ ALL ∧ (.initialized RX7 : Cond) ∈ ALL := ⟨wd_455, wd_456, wd_457, wd_10⟩
noncomputable abbrev w9_X7_takeSemicolon : List Cond := .code yX7_takeSemicolon cX7_takeSemicolon 1 (some .boolean) :: ALL
abbrev r9_X7_takeSemicolon : Room := { frames := 2, cells := 0, slots := 0, locals := 42 }
theorem cf_X7_takeSemicolon : (.instanceMethod yX7_takeSemicolon : Cond) ∈ ALL ∧ (.selects RX7 yX7_takeSemicolon yX7_takeSemicolon : Cond) ∈ ALL ∧ (.code yX7_takeSemicolon cX7_takeSemicolon 1 (some .boolean) : Cond) ∈ ALL ∧ (.initialized RX7 : Cond) ∈ ALL := ⟨wd_488, wd_489, wd_490, wd_10⟩
noncomputable abbrev w9_X7_isName : List Cond := .code yX7_isName cX7_isName 1 (some .boolean) :: ALL
abbrev r9_X7_isName : Room := { frames := 0, cells := 0, slots := 0, locals := 0 }
theorem cf_X7_isName : (.instanceMethod yX7_isName : Cond) ∈ ALL ∧ (.selects RX7 yX7_isName yX7_isName : Cond) ∈ ALL ∧ (.code yX7_isName cX7_isName 1 (some .boolean) : Cond) ∈ ALL ∧ (.initialized RX7 : Cond) ∈ ALL := ⟨wd_523, wq_5, wd_524, wd_10⟩
noncomputable abbrev w9_X7_takeName : List Cond := .code yX7_takeName cX7_takeName 1 (some .boolean) :: ALL
abbrev r9_X7_takeName : Room := { frames := 2, cells := 0, slots := 0, locals := 42 }
theorem cf_X7_takeName : (.instanceMethod yX7_takeName : Cond) ∈ ALL ∧ (.selects RX7 yX7_takeName yX7_takeName : Cond) ∈ ALL ∧ (.code yX7_takeName cX7_takeName 1 (some .boolean) : Cond) ∈ ALL ∧ (.initialized RX7 : Cond) ∈ ALL := ⟨wd_518, wd_519, wd_520, wd_10⟩
noncomputable abbrev w9_X7_takeNumber : List Cond := .code yX7_takeNumber cX7_takeNumber 3 (some .boolean) :: ALL
abbrev r9_X7_takeNumber : Room := { frames := 2, cells := 0, slots := 0, locals := 43 }
theorem cf_X7_takeNumber : (.instanceMethod yX7_takeNumber : Cond) ∈ ALL ∧ (.selects RX7 yX7_takeNumber yX7_takeNumber : Cond) ∈ ALL ∧ (.code yX7_takeNumber cX7_takeNumber 3 (some .boolean) : Cond) ∈ ALL ∧ (.initialized RX7 : Cond) ∈ ALL := ⟨wd_480, wd_481, wd_482, wd_10⟩
noncomputable abbrev w9_X7_checkNumber : List Cond := .code yX7_checkNumber cX7_checkNumber 3 (some .boolean) :: ALL
abbrev r9_X7_checkNumber : Room := { frames := 1, cells := 0, slots := 0, locals := 21 }
theorem cf_X7_checkNumber : (.instanceMethod yX7_checkNumber : Cond) ∈ ALL ∧ (.selects RX7 yX7_checkNumber yX7_checkNumber : Cond) ∈ ALL ∧ (.code yX7_checkNumber cX7_checkNumber 3 (some .boolean) : Cond) ∈ ALL ∧ (.initialized RX7 : Cond) ∈ ALL := ⟨wd_484, wd_485, wd_486, wd_10⟩
noncomputable abbrev w9_X7_takeEcho : List Cond := .code yX7_takeEcho cX7_takeEcho 2 (some .boolean) :: ALL
abbrev r9_X7_takeEcho : Room := { frames := 2, cells := 0, slots := 0, locals := 47 }
theorem cf_X7_takeEcho : (.instanceMethod yX7_takeEcho : Cond) ∈ ALL ∧ (.selects RX7 yX7_takeEcho yX7_takeEcho : Cond) ∈ ALL ∧ (.code yX7_takeEcho cX7_takeEcho 2 (some .boolean) : Cond) ∈ ALL ∧ (.initialized RX7 : Cond) ∈ ALL := ⟨wd_566, wd_567, wd_568, wd_10⟩
noncomputable abbrev w9_X7_takeValley : List Cond := .code yX7_takeValley cX7_takeValley 2 (some .boolean) :: ALL
abbrev r9_X7_takeValley : Room := { frames := 2, cells := 0, slots := 0, locals := 47 }
theorem cf_X7_takeValley : (.instanceMethod yX7_takeValley : Cond) ∈ ALL ∧ (.selects RX7 yX7_takeValley yX7_takeValley : Cond) ∈ ALL ∧ (.code yX7_takeValley cX7_takeValley 2 (some .boolean) : Cond) ∈ ALL ∧ (.initialized RX7 : Cond) ∈ ALL := ⟨wd_561, wd_562, wd_563, wd_10⟩
noncomputable abbrev w9_X8_init : List Cond := .code yX8_init cX8_init 1 none :: ALL
abbrev r9_X8_init : Room := { frames := 1, cells := 17, slots := 17, locals := 12 }
theorem cf_X8_init : (.instanceMethod yX8_init : Cond) ∈ ALL ∧ (.initialized RX8 : Cond) ∈ ALL ∧ (.code yX8_init cX8_init 1 none : Cond) ∈ ALL ∧ (.initialized RX8 : Cond) ∈ ALL := ⟨wd_140, wd_7, wd_141, wd_7⟩
noncomputable abbrev w9_X8_start : List Cond := .code yX8_start cX8_start 4 none :: ALL
abbrev r9_X8_start : Room := { frames := 0, cells := 0, slots := 0, locals := 0 }
theorem cf_X8_start : (.instanceMethod yX8_start : Cond) ∈ ALL ∧ (.selects RX8 yX8_start yX8_start : Cond) ∈ ALL ∧ (.code yX8_start cX8_start 4 none : Cond) ∈ ALL ∧ (.initialized RX8 : Cond) ∈ ALL := ⟨wd_552, wd_553, wd_554, wd_7⟩
noncomputable abbrev w9_X8_copyFrom : List Cond := .code yX8_copyFrom cX8_copyFrom 2 none :: ALL
abbrev r9_X8_copyFrom : Room := { frames := 1, cells := 0, slots := 0, locals := 26 }
theorem cf_X8_copyFrom : (.instanceMethod yX8_copyFrom : Cond) ∈ ALL ∧ (.selects RX8 yX8_copyFrom yX8_copyFrom : Cond) ∈ ALL ∧ (.code yX8_copyFrom cX8_copyFrom 2 none : Cond) ∈ ALL ∧ (.initialized RX8 : Cond) ∈ ALL := ⟨wd_587, wd_588, wd_589, wd_7⟩
noncomputable abbrev w9_X8_hasTested : List Cond := .code yX8_hasTested cX8_hasTested 2 (some .boolean) :: ALL
abbrev r9_X8_hasTested : Room := { frames := 0, cells := 0, slots := 0, locals := 0 }
theorem cf_X8_hasTested : (.instanceMethod yX8_hasTested : Cond) ∈ ALL ∧ (.selects RX8 yX8_hasTested yX8_hasTested : Cond) ∈ ALL ∧ (.code yX8_hasTested cX8_hasTested 2 (some .boolean) : Cond) ∈ ALL ∧ (.initialized RX8 : Cond) ∈ ALL := ⟨wd_696, wd_697, wd_698, wd_7⟩
noncomputable abbrev w9_X8_noteTest : List Cond := .code yX8_noteTest cX8_noteTest 2 none :: ALL
abbrev r9_X8_noteTest : Room := { frames := 0, cells := 0, slots := 0, locals := 0 }
theorem cf_X8_noteTest : (.instanceMethod yX8_noteTest : Cond) ∈ ALL ∧ (.selects RX8 yX8_noteTest yX8_noteTest : Cond) ∈ ALL ∧ (.code yX8_noteTest cX8_noteTest 2 none : Cond) ∈ ALL ∧ (.initialized RX8 : Cond) ∈ ALL := ⟨wd_571, wd_572, wd_573, wd_7⟩
noncomputable abbrev w9_X8_hasLost : List Cond := .code yX8_hasLost cX8_hasLost 2 (some .boolean) :: ALL
abbrev r9_X8_hasLost : Room := { frames := 0, cells := 0, slots := 0, locals := 0 }
theorem cf_X8_hasLost : (.instanceMethod yX8_hasLost : Cond) ∈ ALL ∧ (.selects RX8 yX8_hasLost yX8_hasLost : Cond) ∈ ALL ∧ (.code yX8_hasLost cX8_hasLost 2 (some .boolean) : Cond) ∈ ALL ∧ (.initialized RX8 : Cond) ∈ ALL := ⟨wd_708, wd_709, wd_710, wd_7⟩
noncomputable abbrev w9_X8_hasFreePost : List Cond := .code yX8_hasFreePost cX8_hasFreePost 1 (some .boolean) :: ALL
abbrev r9_X8_hasFreePost : Room := { frames := 0, cells := 0, slots := 0, locals := 0 }
theorem cf_X8_hasFreePost : (.instanceMethod yX8_hasFreePost : Cond) ∈ ALL ∧ (.selects RX8 yX8_hasFreePost yX8_hasFreePost : Cond) ∈ ALL ∧ (.code yX8_hasFreePost cX8_hasFreePost 1 (some .boolean) : Cond) ∈ ALL ∧ (.initialized RX8 : Cond) ∈ ALL := ⟨wd_724, wd_725, wd_726, wd_7⟩
noncomputable abbrev w9_X8_hire : List Cond := .code yX8_hire cX8_hire 2 none :: ALL
abbrev r9_X8_hire : Room := { frames := 0, cells := 0, slots := 0, locals := 0 }
theorem cf_X8_hire : (.instanceMethod yX8_hire : Cond) ∈ ALL ∧ (.selects RX8 yX8_hire yX8_hire : Cond) ∈ ALL ∧ (.code yX8_hire cX8_hire 2 none : Cond) ∈ ALL ∧ (.initialized RX8 : Cond) ∈ ALL := ⟨wd_832, wd_833, wd_834, wd_7⟩
noncomputable abbrev w9_X8_release : List Cond := .code yX8_release cX8_release 4 none :: ALL
abbrev r9_X8_release : Room := { frames := 0, cells := 0, slots := 0, locals := 0 }
theorem cf_X8_release : (.instanceMethod yX8_release : Cond) ∈ ALL ∧ (.selects RX8 yX8_release yX8_release : Cond) ∈ ALL ∧ (.code yX8_release cX8_release 4 none : Cond) ∈ ALL ∧ (.initialized RX8 : Cond) ∈ ALL := ⟨wd_1031, wd_1032, wd_1033, wd_7⟩
noncomputable abbrev w9_X9_init : List Cond := .code yX9_init cX9_init 2 none :: ALL
abbrev r9_X9_init : Room := { frames := 2, cells := 382, slots := 382, locals := 32 }
theorem cf_X9_init : (.instanceMethod yX9_init : Cond) ∈ ALL ∧ (.initialized RX9 : Cond) ∈ ALL ∧ (.code yX9_init cX9_init 2 none : Cond) ∈ ALL ∧ (.initialized RX9 : Cond) ∈ ALL := ⟨wd_76, wd_5, wd_77, wd_5⟩
noncomputable abbrev w9_X9_clear : List Cond := .code yX9_clear cX9_clear 1 none :: ALL
abbrev r9_X9_clear : Room := { frames := 0, cells := 0, slots := 0, locals := 0 }
theorem cf_X9_clear : (.instanceMethod yX9_clear : Cond) ∈ ALL ∧ (.selects RX9 yX9_clear yX9_clear : Cond) ∈ ALL ∧ (.code yX9_clear cX9_clear 1 none : Cond) ∈ ALL ∧ (.initialized RX9 : Cond) ∈ ALL := ⟨wd_446, wd_447, wd_448, wd_5⟩
noncomputable abbrev w9_X9_copyFrom : List Cond := .code yX9_copyFrom cX9_copyFrom 3 none :: ALL
abbrev r9_X9_copyFrom : Room := { frames := 2, cells := 0, slots := 0, locals := 47 }
theorem cf_X9_copyFrom : (.instanceMethod yX9_copyFrom : Cond) ∈ ALL ∧ (.selects RX9 yX9_copyFrom yX9_copyFrom : Cond) ∈ ALL ∧ (.code yX9_copyFrom cX9_copyFrom 3 none : Cond) ∈ ALL ∧ (.initialized RX9 : Cond) ∈ ALL := ⟨wd_579, wd_580, wd_581, wd_5⟩
noncomputable abbrev w9_X9_echoNamed : List Cond := .code yX9_echoNamed cX9_echoNamed 4 (some .int) :: ALL
abbrev r9_X9_echoNamed : Room := { frames := 0, cells := 0, slots := 0, locals := 0 }
theorem cf_X9_echoNamed : (.instanceMethod yX9_echoNamed : Cond) ∈ ALL ∧ (.selects RX9 yX9_echoNamed yX9_echoNamed : Cond) ∈ ALL ∧ (.code yX9_echoNamed cX9_echoNamed 4 (some .int) : Cond) ∈ ALL ∧ (.initialized RX9 : Cond) ∈ ALL := ⟨wd_535, wd_536, wd_537, wd_5⟩
noncomputable abbrev w9_X9_valleyNamed : List Cond := .code yX9_valleyNamed cX9_valleyNamed 4 (some .int) :: ALL
abbrev r9_X9_valleyNamed : Room := { frames := 0, cells := 0, slots := 0, locals := 0 }
theorem cf_X9_valleyNamed : (.instanceMethod yX9_valleyNamed : Cond) ∈ ALL ∧ (.selects RX9 yX9_valleyNamed yX9_valleyNamed : Cond) ∈ ALL ∧ (.code yX9_valleyNamed cX9_valleyNamed 4 (some .int) : Cond) ∈ ALL ∧ (.initialized RX9 : Cond) ∈ ALL := ⟨wd_548, wd_549, wd_550, wd_5⟩
noncomputable abbrev w9_X9_trueScore : List Cond := .code yX9_trueScore cX9_trueScore 4 (some .int) :: ALL
abbrev r9_X9_trueScore : Room := { frames := 0, cells := 0, slots := 0, locals := 0 }
theorem cf_X9_trueScore : (.instanceMethod yX9_trueScore : Cond) ∈ ALL ∧ (.selects RX9 yX9_trueScore yX9_trueScore : Cond) ∈ ALL ∧ (.code yX9_trueScore cX9_trueScore 4 (some .int) : Cond) ∈ ALL ∧ (.initialized RX9 : Cond) ∈ ALL := ⟨wd_700, wd_701, wd_702, wd_5⟩
noncomputable abbrev w9_X9_scoreSeen : List Cond := .code yX9_scoreSeen cX9_scoreSeen 3 (some .int) :: ALL
abbrev r9_X9_scoreSeen : Room := { frames := 1, cells := 0, slots := 0, locals := 23 }
theorem cf_X9_scoreSeen : (.instanceMethod yX9_scoreSeen : Cond) ∈ ALL ∧ (.selects RX9 yX9_scoreSeen yX9_scoreSeen : Cond) ∈ ALL ∧ (.code yX9_scoreSeen cX9_scoreSeen 3 (some .int) : Cond) ∈ ALL ∧ (.initialized RX9 : Cond) ∈ ALL := ⟨wd_692, wd_693, wd_694, wd_5⟩
noncomputable abbrev w9_X9_reasonAt : List Cond := .code yX9_reasonAt cX9_reasonAt 4 (some .int) :: ALL
abbrev r9_X9_reasonAt : Room := { frames := 1, cells := 0, slots := 0, locals := 21 }
theorem cf_X9_reasonAt : (.instanceMethod yX9_reasonAt : Cond) ∈ ALL ∧ (.selects RX9 yX9_reasonAt yX9_reasonAt : Cond) ∈ ALL ∧ (.code yX9_reasonAt cX9_reasonAt 4 (some .int) : Cond) ∈ ALL ∧ (.initialized RX9 : Cond) ∈ ALL := ⟨wd_704, wd_705, wd_706, wd_5⟩
noncomputable abbrev w9_X9_isAcceptable : List Cond := .code yX9_isAcceptable cX9_isAcceptable 3 (some .boolean) :: ALL
abbrev r9_X9_isAcceptable : Room := { frames := 2, cells := 0, slots := 0, locals := 45 }
theorem cf_X9_isAcceptable : (.instanceMethod yX9_isAcceptable : Cond) ∈ ALL ∧ (.selects RX9 yX9_isAcceptable yX9_isAcceptable : Cond) ∈ ALL ∧ (.code yX9_isAcceptable cX9_isAcceptable 3 (some .boolean) : Cond) ∈ ALL ∧ (.initialized RX9 : Cond) ∈ ALL := ⟨wd_688, wd_689, wd_690, wd_5⟩
noncomputable abbrev w9_X9_paysBetter : List Cond := .code yX9_paysBetter cX9_paysBetter 5 (some .boolean) :: ALL
abbrev r9_X9_paysBetter : Room := { frames := 0, cells := 0, slots := 0, locals := 0 }
theorem cf_X9_paysBetter : (.instanceMethod yX9_paysBetter : Cond) ∈ ALL ∧ (.selects RX9 yX9_paysBetter yX9_paysBetter : Cond) ∈ ALL ∧ (.code yX9_paysBetter cX9_paysBetter 5 (some .boolean) : Cond) ∈ ALL ∧ (.initialized RX9 : Cond) ∈ ALL := ⟨wd_716, wd_717, wd_718, wd_5⟩
noncomputable abbrev w9_X9_prefersEcho : List Cond := .code yX9_prefersEcho cX9_prefersEcho 6 (some .boolean) :: ALL
abbrev r9_X9_prefersEcho : Room := { frames := 2, cells := 0, slots := 0, locals := 45 }
theorem cf_X9_prefersEcho : (.instanceMethod yX9_prefersEcho : Cond) ∈ ALL ∧ (.selects RX9 yX9_prefersEcho yX9_prefersEcho : Cond) ∈ ALL ∧ (.code yX9_prefersEcho cX9_prefersEcho 6 (some .boolean) : Cond) ∈ ALL ∧ (.initialized RX9 : Cond) ∈ ALL := ⟨wd_728, wd_729, wd_730, wd_5⟩
noncomputable abbrev w9_X9_rankOfValley : List Cond := .code yX9_rankOfValley cX9_rankOfValley 5 (some .int) :: ALL
abbrev r9_X9_rankOfValley : Room := { frames := 3, cells := 0, slots := 0, locals := 67 }
theorem cf_X9_rankOfValley : (.instanceMethod yX9_rankOfValley : Cond) ∈ ALL ∧ (.selects RX9 yX9_rankOfValley yX9_rankOfValley : Cond) ∈ ALL ∧ (.code yX9_rankOfValley cX9_rankOfValley 5 (some .int) : Cond) ∈ ALL ∧ (.initialized RX9 : Cond) ∈ ALL := ⟨wd_1254, wd_1255, wd_1256, wd_5⟩
noncomputable abbrev w9_X9_rankOfEcho : List Cond := .code yX9_rankOfEcho cX9_rankOfEcho 5 (some .int) :: ALL
abbrev r9_X9_rankOfEcho : Room := { frames := 3, cells := 0, slots := 0, locals := 70 }
theorem cf_X9_rankOfEcho : (.instanceMethod yX9_rankOfEcho : Cond) ∈ ALL ∧ (.selects RX9 yX9_rankOfEcho yX9_rankOfEcho : Cond) ∈ ALL ∧ (.code yX9_rankOfEcho cX9_rankOfEcho 5 (some .int) : Cond) ∈ ALL ∧ (.initialized RX9 : Cond) ∈ ALL := ⟨wd_1265, wd_1266, wd_1267, wd_5⟩
noncomputable abbrev w9_X9_isBlocking : List Cond := .code yX9_isBlocking cX9_isBlocking 3 (some .boolean) :: ALL
abbrev r9_X9_isBlocking : Room := { frames := 4, cells := 0, slots := 0, locals := 94 }
theorem cf_X9_isBlocking : (.instanceMethod yX9_isBlocking : Cond) ∈ ALL ∧ (.selects RX9 yX9_isBlocking yX9_isBlocking : Cond) ∈ ALL ∧ (.code yX9_isBlocking cX9_isBlocking 3 (some .boolean) : Cond) ∈ ALL ∧ (.initialized RX9 : Cond) ∈ ALL := ⟨wd_684, wd_685, wd_686, wd_5⟩
noncomputable abbrev w9_X9_wouldMove : List Cond := .code yX9_wouldMove cX9_wouldMove 4 (some .boolean) :: ALL
abbrev r9_X9_wouldMove : Room := { frames := 3, cells := 0, slots := 0, locals := 67 }
theorem cf_X9_wouldMove : (.instanceMethod yX9_wouldMove : Cond) ∈ ALL ∧ (.selects RX9 yX9_wouldMove yX9_wouldMove : Cond) ∈ ALL ∧ (.code yX9_wouldMove cX9_wouldMove 4 (some .boolean) : Cond) ∈ ALL ∧ (.initialized RX9 : Cond) ∈ ALL := ⟨wd_712, wd_713, wd_714, wd_5⟩
noncomputable abbrev w9_X9_wouldTake : List Cond := .code yX9_wouldTake cX9_wouldTake 5 (some .boolean) :: ALL
abbrev r9_X9_wouldTake : Room := { frames := 3, cells := 0, slots := 0, locals := 70 }
theorem cf_X9_wouldTake : (.instanceMethod yX9_wouldTake : Cond) ∈ ALL ∧ (.selects RX9 yX9_wouldTake yX9_wouldTake : Cond) ∈ ALL ∧ (.code yX9_wouldTake cX9_wouldTake 5 (some .boolean) : Cond) ∈ ALL ∧ (.initialized RX9 : Cond) ∈ ALL := ⟨wd_720, wd_721, wd_722, wd_5⟩
noncomputable abbrev w9_X9_canTest : List Cond := .code yX9_canTest cX9_canTest 3 (some .boolean) :: ALL
abbrev r9_X9_canTest : Room := { frames := 1, cells := 0, slots := 0, locals := 21 }
theorem cf_X9_canTest : (.instanceMethod yX9_canTest : Cond) ∈ ALL ∧ (.selects RX9 yX9_canTest yX9_canTest : Cond) ∈ ALL ∧ (.code yX9_canTest cX9_canTest 3 (some .boolean) : Cond) ∈ ALL ∧ (.initialized RX9 : Cond) ∈ ALL := ⟨wd_1062, wd_1063, wd_1064, wd_5⟩
noncomputable abbrev w9_X9_employ : List Cond := .code yX9_employ cX9_employ 3 none :: ALL
abbrev r9_X9_employ : Room := { frames := 1, cells := 0, slots := 0, locals := 21 }
theorem cf_X9_employ : (.instanceMethod yX9_employ : Cond) ∈ ALL ∧ (.selects RX9 yX9_employ yX9_employ : Cond) ∈ ALL ∧ (.code yX9_employ cX9_employ 3 none : Cond) ∈ ALL ∧ (.initialized RX9 : Cond) ∈ ALL := ⟨wd_828, wd_829, wd_830, wd_5⟩
noncomputable abbrev w9_X9_endContract : List Cond := .code yX9_endContract cX9_endContract 3 none :: ALL
abbrev r9_X9_endContract : Room := { frames := 1, cells := 0, slots := 0, locals := 23 }
theorem cf_X9_endContract : (.instanceMethod yX9_endContract : Cond) ∈ ALL ∧ (.selects RX9 yX9_endContract yX9_endContract : Cond) ∈ ALL ∧ (.code yX9_endContract cX9_endContract 3 none : Cond) ∈ ALL ∧ (.initialized RX9 : Cond) ∈ ALL := ⟨wd_1027, wd_1028, wd_1029, wd_5⟩
noncomputable abbrev w9_X9_endSeason : List Cond := .code yX9_endSeason cX9_endSeason 2 none :: ALL
abbrev r9_X9_endSeason : Room := { frames := 2, cells := 0, slots := 0, locals := 45 }
theorem cf_X9_endSeason : (.instanceMethod yX9_endSeason : Cond) ∈ ALL ∧ (.selects RX9 yX9_endSeason yX9_endSeason : Cond) ∈ ALL ∧ (.code yX9_endSeason cX9_endSeason 2 none : Cond) ∈ ALL ∧ (.initialized RX9 : Cond) ∈ ALL := ⟨wd_1023, wd_1024, wd_1025, wd_5⟩
noncomputable abbrev w9_X9_work : List Cond := .code yX9_work cX9_work 2 none :: ALL
abbrev r9_X9_work : Room := { frames := 1, cells := 0, slots := 0, locals := 24 }
theorem cf_X9_work : (.instanceMethod yX9_work : Cond) ∈ ALL ∧ (.selects RX9 yX9_work yX9_work : Cond) ∈ ALL ∧ (.code yX9_work cX9_work 2 none : Cond) ∈ ALL ∧ (.initialized RX9 : Cond) ∈ ALL := ⟨wd_1035, wd_1036, wd_1037, wd_5⟩
noncomputable abbrev w9_X9_hearReplies : List Cond := .code yX9_hearReplies cX9_hearReplies 5 none :: ALL
abbrev r9_X9_hearReplies : Room := { frames := 0, cells := 0, slots := 0, locals := 0 }
theorem cf_X9_hearReplies : (.instanceMethod yX9_hearReplies : Cond) ∈ ALL ∧ (.selects RX9 yX9_hearReplies yX9_hearReplies : Cond) ∈ ALL ∧ (.code yX9_hearReplies cX9_hearReplies 5 none : Cond) ∈ ALL ∧ (.initialized RX9 : Cond) ∈ ALL := ⟨wd_1040, wq_25, wd_1041, wd_5⟩
noncomputable abbrev w9_X9_payStaff : List Cond := .code yX9_payStaff cX9_payStaff 5 none :: ALL
abbrev r9_X9_payStaff : Room := { frames := 0, cells := 0, slots := 0, locals := 0 }
theorem cf_X9_payStaff : (.instanceMethod yX9_payStaff : Cond) ∈ ALL ∧ (.selects RX9 yX9_payStaff yX9_payStaff : Cond) ∈ ALL ∧ (.code yX9_payStaff cX9_payStaff 5 none : Cond) ∈ ALL ∧ (.initialized RX9 : Cond) ∈ ALL := ⟨wd_1044, wq_26, wd_1045, wd_5⟩
noncomputable abbrev w9_X9_desert : List Cond := .code yX9_desert cX9_desert 5 (some .int) :: ALL
abbrev r9_X9_desert : Room := { frames := 2, cells := 0, slots := 0, locals := 45 }
theorem cf_X9_desert : (.instanceMethod yX9_desert : Cond) ∈ ALL ∧ (.selects RX9 yX9_desert yX9_desert : Cond) ∈ ALL ∧ (.code yX9_desert cX9_desert 5 (some .int) : Cond) ∈ ALL ∧ (.initialized RX9 : Cond) ∈ ALL := ⟨wd_1054, wd_1055, wd_1056, wd_5⟩
noncomputable abbrev w9_X9_putMoney : List Cond := .code yX9_putMoney cX9_putMoney 3 none :: ALL
abbrev r9_X9_putMoney : Room := { frames := 0, cells := 0, slots := 0, locals := 0 }
theorem cf_X9_putMoney : (.instanceMethod yX9_putMoney : Cond) ∈ ALL ∧ (.selects RX9 yX9_putMoney yX9_putMoney : Cond) ∈ ALL ∧ (.code yX9_putMoney cX9_putMoney 3 none : Cond) ∈ ALL ∧ (.initialized RX9 : Cond) ∈ ALL := ⟨wd_1068, wd_1069, wd_1070, wd_5⟩
noncomputable abbrev w9_X9_teach : List Cond := .code yX9_teach cX9_teach 3 none :: ALL
abbrev r9_X9_teach : Room := { frames := 1, cells := 0, slots := 0, locals := 20 }
theorem cf_X9_teach : (.instanceMethod yX9_teach : Cond) ∈ ALL ∧ (.selects RX9 yX9_teach yX9_teach : Cond) ∈ ALL ∧ (.code yX9_teach cX9_teach 3 none : Cond) ∈ ALL ∧ (.initialized RX9 : Cond) ∈ ALL := ⟨wd_1080, wd_1081, wd_1082, wd_5⟩
noncomputable abbrev w9_X9_moneyInPurses : List Cond := .code yX9_moneyInPurses cX9_moneyInPurses 3 (some .int) :: ALL
abbrev r9_X9_moneyInPurses : Room := { frames := 0, cells := 0, slots := 0, locals := 0 }
theorem cf_X9_moneyInPurses : (.instanceMethod yX9_moneyInPurses : Cond) ∈ ALL ∧ (.selects RX9 yX9_moneyInPurses yX9_moneyInPurses : Cond) ∈ ALL ∧ (.code yX9_moneyInPurses cX9_moneyInPurses 3 (some .int) : Cond) ∈ ALL ∧ (.initialized RX9 : Cond) ∈ ALL := ⟨wd_748, wd_749, wd_750, wd_5⟩
noncomputable abbrev w9_X9_moneySaved : List Cond := .code yX9_moneySaved cX9_moneySaved 3 (some .int) :: ALL
abbrev r9_X9_moneySaved : Room := { frames := 0, cells := 0, slots := 0, locals := 0 }
theorem cf_X9_moneySaved : (.instanceMethod yX9_moneySaved : Cond) ∈ ALL ∧ (.selects RX9 yX9_moneySaved yX9_moneySaved : Cond) ∈ ALL ∧ (.code yX9_moneySaved cX9_moneySaved 3 (some .int) : Cond) ∈ ALL ∧ (.initialized RX9 : Cond) ∈ ALL := ⟨wd_752, wd_753, wd_754, wd_5⟩
noncomputable abbrev w9_X9_contracts : List Cond := .code yX9_contracts cX9_contracts 3 (some .int) :: ALL
abbrev r9_X9_contracts : Room := { frames := 0, cells := 0, slots := 0, locals := 0 }
theorem cf_X9_contracts : (.instanceMethod yX9_contracts : Cond) ∈ ALL ∧ (.selects RX9 yX9_contracts yX9_contracts : Cond) ∈ ALL ∧ (.code yX9_contracts cX9_contracts 3 (some .int) : Cond) ∈ ALL ∧ (.initialized RX9 : Cond) ∈ ALL := ⟨wd_760, wd_761, wd_762, wd_5⟩
noncomputable abbrev w9_X9_valleysServedBy : List Cond := .code yX9_valleysServedBy cX9_valleysServedBy 5 (some .int) :: ALL
abbrev r9_X9_valleysServedBy : Room := { frames := 0, cells := 0, slots := 0, locals := 0 }
theorem cf_X9_valleysServedBy : (.instanceMethod yX9_valleysServedBy : Cond) ∈ ALL ∧ (.selects RX9 yX9_valleysServedBy yX9_valleysServedBy : Cond) ∈ ALL ∧ (.code yX9_valleysServedBy cX9_valleysServedBy 5 (some .int) : Cond) ∈ ALL ∧ (.initialized RX9 : Cond) ∈ ALL := ⟨wd_768, wd_769, wd_770, wd_5⟩
noncomputable abbrev w9_X10_init : List Cond := .code yX10_init cX10_init 2 none :: ALL
abbrev r9_X10_init : Room := { frames := 8, cells := 6549, slots := 6549, locals := 170 }
theorem cf_X10_init : (.instanceMethod yX10_init : Cond) ∈ ALL ∧ (.initialized RX10 : Cond) ∈ ALL ∧ (.code yX10_init cX10_init 2 none : Cond) ∈ ALL ∧ (.initialized RX10 : Cond) ∈ ALL := ⟨wd_28, wd_1, wd_29, wd_1⟩
noncomputable abbrev w9_X10_append : List Cond := .code yX10_append cX10_append 6 (some .int) :: ALL
abbrev r9_X10_append : Room := { frames := 6, cells := 7, slots := 7, locals := 82 }
theorem cf_X10_append : (.instanceMethod yX10_append : Cond) ∈ ALL ∧ (.selects RX10 yX10_append yX10_append : Cond) ∈ ALL ∧ (.code yX10_append cX10_append 6 (some .int) : Cond) ∈ ALL ∧ (.initialized RX10 : Cond) ∈ ALL := ⟨wd_861, wd_862, wd_863, wd_1⟩
noncomputable abbrev w9_X10_truncate : List Cond := .code yX10_truncate cX10_truncate 2 (some .int) :: ALL
abbrev r9_X10_truncate : Room := { frames := 6, cells := 7, slots := 7, locals := 82 }
theorem cf_X10_truncate : (.instanceMethod yX10_truncate : Cond) ∈ ALL ∧ (.selects RX10 yX10_truncate yX10_truncate : Cond) ∈ ALL ∧ (.code yX10_truncate cX10_truncate 2 (some .int) : Cond) ∈ ALL ∧ (.initialized RX10 : Cond) ∈ ALL := ⟨wd_940, wd_941, wd_942, wd_1⟩
noncomputable abbrev w9_X10_load : List Cond := .code yX10_load cX10_load 2 (some .int) :: ALL
abbrev r9_X10_load : Room := { frames := 8, cells := 7, slots := 7, locals := 170 }
theorem cf_X10_load : (.instanceMethod yX10_load : Cond) ∈ ALL ∧ (.selects RX10 yX10_load yX10_load : Cond) ∈ ALL ∧ (.code yX10_load cX10_load 2 (some .int) : Cond) ∈ ALL ∧ (.initialized RX10 : Cond) ∈ ALL := ⟨wd_963, wd_964, wd_965, wd_1⟩
noncomputable abbrev w9_X10_executeCommands : List Cond := .code yX10_executeCommands cX10_executeCommands 3 (some .int) :: ALL
abbrev r9_X10_executeCommands : Room := { frames := 7, cells := 7, slots := 7, locals := 150 }
theorem cf_X10_executeCommands : (.instanceMethod yX10_executeCommands : Cond) ∈ ALL ∧ (.selects RX10 yX10_executeCommands yX10_executeCommands : Cond) ∈ ALL ∧ (.code yX10_executeCommands cX10_executeCommands 3 (some .int) : Cond) ∈ ALL ∧ (.initialized RX10 : Cond) ∈ ALL := ⟨wd_975, wd_976, wd_977, wd_1⟩
noncomputable abbrev w9_X10_errorCode : List Cond := .code yX10_errorCode cX10_errorCode 1 (some .int) :: ALL
abbrev r9_X10_errorCode : Room := { frames := 0, cells := 0, slots := 0, locals := 0 }
theorem cf_X10_errorCode : (.instanceMethod yX10_errorCode : Cond) ∈ ALL ∧ (.selects RX10 yX10_errorCode yX10_errorCode : Cond) ∈ ALL ∧ (.code yX10_errorCode cX10_errorCode 1 (some .int) : Cond) ∈ ALL ∧ (.initialized RX10 : Cond) ∈ ALL := ⟨wd_645, wd_646, wd_647, wd_1⟩
noncomputable abbrev w9_X10_errorPosition : List Cond := .code yX10_errorPosition cX10_errorPosition 1 (some .int) :: ALL
abbrev r9_X10_errorPosition : Room := { frames := 0, cells := 0, slots := 0, locals := 0 }
theorem cf_X10_errorPosition : (.instanceMethod yX10_errorPosition : Cond) ∈ ALL ∧ (.selects RX10 yX10_errorPosition yX10_errorPosition : Cond) ∈ ALL ∧ (.code yX10_errorPosition cX10_errorPosition 1 (some .int) : Cond) ∈ ALL ∧ (.initialized RX10 : Cond) ∈ ALL := ⟨wd_649, wd_650, wd_651, wd_1⟩
noncomputable abbrev w9_X10_echoCount : List Cond := .code yX10_echoCount cX10_echoCount 1 (some .int) :: ALL
abbrev r9_X10_echoCount : Room := { frames := 0, cells := 0, slots := 0, locals := 0 }
theorem cf_X10_echoCount : (.instanceMethod yX10_echoCount : Cond) ∈ ALL ∧ (.selects RX10 yX10_echoCount yX10_echoCount : Cond) ∈ ALL ∧ (.code yX10_echoCount cX10_echoCount 1 (some .int) : Cond) ∈ ALL ∧ (.initialized RX10 : Cond) ∈ ALL := ⟨wd_653, wd_654, wd_655, wd_1⟩
noncomputable abbrev w9_X10_valleyCount : List Cond := .code yX10_valleyCount cX10_valleyCount 1 (some .int) :: ALL
abbrev r9_X10_valleyCount : Room := { frames := 0, cells := 0, slots := 0, locals := 0 }
theorem cf_X10_valleyCount : (.instanceMethod yX10_valleyCount : Cond) ∈ ALL ∧ (.selects RX10 yX10_valleyCount yX10_valleyCount : Cond) ∈ ALL ∧ (.code yX10_valleyCount cX10_valleyCount 1 (some .int) : Cond) ∈ ALL ∧ (.initialized RX10 : Cond) ∈ ALL := ⟨wd_657, wd_658, wd_659, wd_1⟩
noncomputable abbrev w9_X10_day : List Cond := .code yX10_day cX10_day 1 (some .int) :: ALL
abbrev r9_X10_day : Room := { frames := 0, cells := 0, slots := 0, locals := 0 }
theorem cf_X10_day : (.instanceMethod yX10_day : Cond) ∈ ALL ∧ (.selects RX10 yX10_day yX10_day : Cond) ∈ ALL ∧ (.code yX10_day cX10_day 1 (some .int) : Cond) ∈ ALL ∧ (.initialized RX10 : Cond) ∈ ALL := ⟨wd_661, wd_662, wd_663, wd_1⟩
noncomputable abbrev w9_X10_seasonLength : List Cond := .code yX10_seasonLength cX10_seasonLength 1 (some .int) :: ALL
abbrev r9_X10_seasonLength : Room := { frames := 0, cells := 0, slots := 0, locals := 0 }
theorem cf_X10_seasonLength : (.instanceMethod yX10_seasonLength : Cond) ∈ ALL ∧ (.selects RX10 yX10_seasonLength yX10_seasonLength : Cond) ∈ ALL ∧ (.code yX10_seasonLength cX10_seasonLength 1 (some .int) : Cond) ∈ ALL ∧ (.initialized RX10 : Cond) ∈ ALL := ⟨wd_665, wd_666, wd_667, wd_1⟩
noncomputable abbrev w9_X10_fogOf : List Cond := .code yX10_fogOf cX10_fogOf 2 (some .int) :: ALL
abbrev r9_X10_fogOf : Room := { frames := 6, cells := 7, slots := 7, locals := 82 }
theorem cf_X10_fogOf : (.instanceMethod yX10_fogOf : Cond) ∈ ALL ∧ (.selects RX10 yX10_fogOf yX10_fogOf : Cond) ∈ ALL ∧ (.code yX10_fogOf cX10_fogOf 2 (some .int) : Cond) ∈ ALL ∧ (.initialized RX10 : Cond) ∈ ALL := ⟨wd_1088, wd_1089, wd_1090, wd_1⟩
noncomputable abbrev w9_X10_findEcho : List Cond := .code yX10_findEcho cX10_findEcho 1 (some .int) :: ALL
abbrev r9_X10_findEcho : Room := { frames := 2, cells := 0, slots := 0, locals := 47 }
theorem cf_X10_findEcho : (.instanceMethod yX10_findEcho : Cond) ∈ ALL ∧ (.selects RX10 yX10_findEcho yX10_findEcho : Cond) ∈ ALL ∧ (.code yX10_findEcho cX10_findEcho 1 (some .int) : Cond) ∈ ALL ∧ (.initialized RX10 : Cond) ∈ ALL := ⟨wd_669, wd_670, wd_671, wd_1⟩
noncomputable abbrev w9_X10_findValley : List Cond := .code yX10_findValley cX10_findValley 1 (some .int) :: ALL
abbrev r9_X10_findValley : Room := { frames := 2, cells := 0, slots := 0, locals := 47 }
theorem cf_X10_findValley : (.instanceMethod yX10_findValley : Cond) ∈ ALL ∧ (.selects RX10 yX10_findValley yX10_findValley : Cond) ∈ ALL ∧ (.code yX10_findValley cX10_findValley 1 (some .int) : Cond) ∈ ALL ∧ (.initialized RX10 : Cond) ∈ ALL := ⟨wd_675, wd_676, wd_677, wd_1⟩
noncomputable abbrev w9_X10_delayOf : List Cond := .code yX10_delayOf cX10_delayOf 2 (some .int) :: ALL
abbrev r9_X10_delayOf : Room := { frames := 8, cells := 7, slots := 7, locals := 124 }
theorem cf_X10_delayOf : (.instanceMethod yX10_delayOf : Cond) ∈ ALL ∧ (.selects RX10 yX10_delayOf yX10_delayOf : Cond) ∈ ALL ∧ (.code yX10_delayOf cX10_delayOf 2 (some .int) : Cond) ∈ ALL ∧ (.initialized RX10 : Cond) ∈ ALL := ⟨wd_1097, wd_1098, wd_1099, wd_1⟩
noncomputable abbrev w9_X10_repeatsOf : List Cond := .code yX10_repeatsOf cX10_repeatsOf 2 (some .int) :: ALL
abbrev r9_X10_repeatsOf : Room := { frames := 8, cells := 7, slots := 7, locals := 124 }
theorem cf_X10_repeatsOf : (.instanceMethod yX10_repeatsOf : Cond) ∈ ALL ∧ (.selects RX10 yX10_repeatsOf yX10_repeatsOf : Cond) ∈ ALL ∧ (.code yX10_repeatsOf cX10_repeatsOf 2 (some .int) : Cond) ∈ ALL ∧ (.initialized RX10 : Cond) ∈ ALL := ⟨wd_1128, wd_1129, wd_1130, wd_1⟩
noncomputable abbrev w9_X10_reserveWage : List Cond := .code yX10_reserveWage cX10_reserveWage 2 (some .int) :: ALL
abbrev r9_X10_reserveWage : Room := { frames := 8, cells := 7, slots := 7, locals := 124 }
theorem cf_X10_reserveWage : (.instanceMethod yX10_reserveWage : Cond) ∈ ALL ∧ (.selects RX10 yX10_reserveWage yX10_reserveWage : Cond) ∈ ALL ∧ (.code yX10_reserveWage cX10_reserveWage 2 (some .int) : Cond) ∈ ALL ∧ (.initialized RX10 : Cond) ∈ ALL := ⟨wd_1135, wd_1136, wd_1137, wd_1⟩
noncomputable abbrev w9_X10_resistanceOf : List Cond := .code yX10_resistanceOf cX10_resistanceOf 2 (some .int) :: ALL
abbrev r9_X10_resistanceOf : Room := { frames := 8, cells := 7, slots := 7, locals := 124 }
theorem cf_X10_resistanceOf : (.instanceMethod yX10_resistanceOf : Cond) ∈ ALL ∧ (.selects RX10 yX10_resistanceOf yX10_resistanceOf : Cond) ∈ ALL ∧ (.code yX10_resistanceOf cX10_resistanceOf 2 (some .int) : Cond) ∈ ALL ∧ (.initialized RX10 : Cond) ∈ ALL := ⟨wd_1142, wd_1143, wd_1144, wd_1⟩
noncomputable abbrev w9_X10_savingsOf : List Cond := .code yX10_savingsOf cX10_savingsOf 2 (some .int) :: ALL
abbrev r9_X10_savingsOf : Room := { frames := 8, cells := 7, slots := 7, locals := 124 }
theorem cf_X10_savingsOf : (.instanceMethod yX10_savingsOf : Cond) ∈ ALL ∧ (.selects RX10 yX10_savingsOf yX10_savingsOf : Cond) ∈ ALL ∧ (.code yX10_savingsOf cX10_savingsOf 2 (some .int) : Cond) ∈ ALL ∧ (.initialized RX10 : Cond) ∈ ALL := ⟨wd_1149, wd_1150, wd_1151, wd_1⟩
noncomputable abbrev w9_X10_unpaidDays : List Cond := .code yX10_unpaidDays cX10_unpaidDays 2 (some .int) :: ALL
abbrev r9_X10_unpaidDays : Room := { frames := 8, cells := 7, slots := 7, locals := 124 }
theorem cf_X10_unpaidDays : (.instanceMethod yX10_unpaidDays : Cond) ∈ ALL ∧ (.selects RX10 yX10_unpaidDays yX10_unpaidDays : Cond) ∈ ALL ∧ (.code yX10_unpaidDays cX10_unpaidDays 2 (some .int) : Cond) ∈ ALL ∧ (.initialized RX10 : Cond) ∈ ALL := ⟨wd_1156, wd_1157, wd_1158, wd_1⟩
noncomputable abbrev w9_X10_employerOf : List Cond := .code yX10_employerOf cX10_employerOf 2 (some .int) :: ALL
abbrev r9_X10_employerOf : Room := { frames := 8, cells := 7, slots := 7, locals := 124 }
theorem cf_X10_employerOf : (.instanceMethod yX10_employerOf : Cond) ∈ ALL ∧ (.selects RX10 yX10_employerOf yX10_employerOf : Cond) ∈ ALL ∧ (.code yX10_employerOf cX10_employerOf 2 (some .int) : Cond) ∈ ALL ∧ (.initialized RX10 : Cond) ∈ ALL := ⟨wd_1163, wd_1164, wd_1165, wd_1⟩
noncomputable abbrev w9_X10_widthOf : List Cond := .code yX10_widthOf cX10_widthOf 2 (some .int) :: ALL
abbrev r9_X10_widthOf : Room := { frames := 8, cells := 7, slots := 7, locals := 124 }
theorem cf_X10_widthOf : (.instanceMethod yX10_widthOf : Cond) ∈ ALL ∧ (.selects RX10 yX10_widthOf yX10_widthOf : Cond) ∈ ALL ∧ (.code yX10_widthOf cX10_widthOf 2 (some .int) : Cond) ∈ ALL ∧ (.initialized RX10 : Cond) ∈ ALL := ⟨wd_1170, wd_1171, wd_1172, wd_1⟩
noncomputable abbrev w9_X10_postsOf : List Cond := .code yX10_postsOf cX10_postsOf 2 (some .int) :: ALL
abbrev r9_X10_postsOf : Room := { frames := 8, cells := 7, slots := 7, locals := 124 }
theorem cf_X10_postsOf : (.instanceMethod yX10_postsOf : Cond) ∈ ALL ∧ (.selects RX10 yX10_postsOf yX10_postsOf : Cond) ∈ ALL ∧ (.code yX10_postsOf cX10_postsOf 2 (some .int) : Cond) ∈ ALL ∧ (.initialized RX10 : Cond) ∈ ALL := ⟨wd_1186, wd_1187, wd_1188, wd_1⟩
noncomputable abbrev w9_X10_wageOf : List Cond := .code yX10_wageOf cX10_wageOf 2 (some .int) :: ALL
abbrev r9_X10_wageOf : Room := { frames := 8, cells := 7, slots := 7, locals := 124 }
theorem cf_X10_wageOf : (.instanceMethod yX10_wageOf : Cond) ∈ ALL ∧ (.selects RX10 yX10_wageOf yX10_wageOf : Cond) ∈ ALL ∧ (.code yX10_wageOf cX10_wageOf 2 (some .int) : Cond) ∈ ALL ∧ (.initialized RX10 : Cond) ∈ ALL := ⟨wd_1193, wd_1194, wd_1195, wd_1⟩
noncomputable abbrev w9_X10_purseOf : List Cond := .code yX10_purseOf cX10_purseOf 2 (some .int) :: ALL
abbrev r9_X10_purseOf : Room := { frames := 8, cells := 7, slots := 7, locals := 124 }
theorem cf_X10_purseOf : (.instanceMethod yX10_purseOf : Cond) ∈ ALL ∧ (.selects RX10 yX10_purseOf yX10_purseOf : Cond) ∈ ALL ∧ (.code yX10_purseOf cX10_purseOf 2 (some .int) : Cond) ∈ ALL ∧ (.initialized RX10 : Cond) ∈ ALL := ⟨wd_1200, wd_1201, wd_1202, wd_1⟩
noncomputable abbrev w9_X10_staffCount : List Cond := .code yX10_staffCount cX10_staffCount 2 (some .int) :: ALL
abbrev r9_X10_staffCount : Room := { frames := 8, cells := 7, slots := 7, locals := 124 }
theorem cf_X10_staffCount : (.instanceMethod yX10_staffCount : Cond) ∈ ALL ∧ (.selects RX10 yX10_staffCount yX10_staffCount : Cond) ∈ ALL ∧ (.code yX10_staffCount cX10_staffCount 2 (some .int) : Cond) ∈ ALL ∧ (.initialized RX10 : Cond) ∈ ALL := ⟨wd_1207, wd_1208, wd_1209, wd_1⟩
noncomputable abbrev w9_X10_staffMember : List Cond := .code yX10_staffMember cX10_staffMember 4 (some .int) :: ALL
abbrev r9_X10_staffMember : Room := { frames := 8, cells := 7, slots := 7, locals := 124 }
theorem cf_X10_staffMember : (.instanceMethod yX10_staffMember : Cond) ∈ ALL ∧ (.selects RX10 yX10_staffMember yX10_staffMember : Cond) ∈ ALL ∧ (.code yX10_staffMember cX10_staffMember 4 (some .int) : Cond) ∈ ALL ∧ (.initialized RX10 : Cond) ∈ ALL := ⟨wd_1214, wd_1215, wd_1216, wd_1⟩
noncomputable abbrev w9_X10_isTested : List Cond := .code yX10_isTested cX10_isTested 3 (some .boolean) :: ALL
abbrev r9_X10_isTested : Room := { frames := 8, cells := 14, slots := 14, locals := 125 }
theorem cf_X10_isTested : (.instanceMethod yX10_isTested : Cond) ∈ ALL ∧ (.selects RX10 yX10_isTested yX10_isTested : Cond) ∈ ALL ∧ (.code yX10_isTested cX10_isTested 3 (some .boolean) : Cond) ∈ ALL ∧ (.initialized RX10 : Cond) ∈ ALL := ⟨wd_1221, wd_1222, wd_1223, wd_1⟩
noncomputable abbrev w9_X10_seenScore : List Cond := .code yX10_seenScore cX10_seenScore 3 (some .int) :: ALL
abbrev r9_X10_seenScore : Room := { frames := 8, cells := 14, slots := 14, locals := 125 }
theorem cf_X10_seenScore : (.instanceMethod yX10_seenScore : Cond) ∈ ALL ∧ (.selects RX10 yX10_seenScore yX10_seenScore : Cond) ∈ ALL ∧ (.code yX10_seenScore cX10_seenScore 3 (some .int) : Cond) ∈ ALL ∧ (.initialized RX10 : Cond) ∈ ALL := ⟨wd_1233, wd_1234, wd_1235, wd_1⟩
noncomputable abbrev w9_X10_pairReason : List Cond := .code yX10_pairReason cX10_pairReason 3 (some .int) :: ALL
abbrev r9_X10_pairReason : Room := { frames := 8, cells := 14, slots := 14, locals := 125 }
theorem cf_X10_pairReason : (.instanceMethod yX10_pairReason : Cond) ∈ ALL ∧ (.selects RX10 yX10_pairReason yX10_pairReason : Cond) ∈ ALL ∧ (.code yX10_pairReason cX10_pairReason 3 (some .int) : Cond) ∈ ALL ∧ (.initialized RX10 : Cond) ∈ ALL := ⟨wd_1241, wd_1242, wd_1243, wd_1⟩
noncomputable abbrev w9_X10_preferredValley : List Cond := .code yX10_preferredValley cX10_preferredValley 4 (some .int) :: ALL
abbrev r9_X10_preferredValley : Room := { frames := 7, cells := 7, slots := 7, locals := 103 }
theorem cf_X10_preferredValley : (.instanceMethod yX10_preferredValley : Cond) ∈ ALL ∧ (.selects RX10 yX10_preferredValley yX10_preferredValley : Cond) ∈ ALL ∧ (.code yX10_preferredValley cX10_preferredValley 4 (some .int) : Cond) ∈ ALL ∧ (.initialized RX10 : Cond) ∈ ALL := ⟨wd_1249, wd_1250, wd_1251, wd_1⟩
noncomputable abbrev w9_X10_preferredEcho : List Cond := .code yX10_preferredEcho cX10_preferredEcho 4 (some .int) :: ALL
abbrev r9_X10_preferredEcho : Room := { frames := 7, cells := 7, slots := 7, locals := 103 }
theorem cf_X10_preferredEcho : (.instanceMethod yX10_preferredEcho : Cond) ∈ ALL ∧ (.selects RX10 yX10_preferredEcho yX10_preferredEcho : Cond) ∈ ALL ∧ (.code yX10_preferredEcho cX10_preferredEcho 4 (some .int) : Cond) ∈ ALL ∧ (.initialized RX10 : Cond) ∈ ALL := ⟨wd_1261, wd_1262, wd_1263, wd_1⟩
noncomputable abbrev w9_X10_blockingPairs : List Cond := .code yX10_blockingPairs cX10_blockingPairs 4 (some .int) :: ALL
abbrev r9_X10_blockingPairs : Room := { frames := 5, cells := 0, slots := 0, locals := 116 }
theorem cf_X10_blockingPairs : (.instanceMethod yX10_blockingPairs : Cond) ∈ ALL ∧ (.selects RX10 yX10_blockingPairs yX10_blockingPairs : Cond) ∈ ALL ∧ (.code yX10_blockingPairs cX10_blockingPairs 4 (some .int) : Cond) ∈ ALL ∧ (.initialized RX10 : Cond) ∈ ALL := ⟨wd_680, wd_681, wd_682, wd_1⟩
noncomputable abbrev w9_X10_fairResult : List Cond := .code yX10_fairResult cX10_fairResult 2 (some .int) :: ALL
abbrev r9_X10_fairResult : Room := { frames := 7, cells := 7, slots := 7, locals := 103 }
theorem cf_X10_fairResult : (.instanceMethod yX10_fairResult : Cond) ∈ ALL ∧ (.selects RX10 yX10_fairResult yX10_fairResult : Cond) ∈ ALL ∧ (.code yX10_fairResult cX10_fairResult 2 (some .int) : Cond) ∈ ALL ∧ (.initialized RX10 : Cond) ∈ ALL := ⟨wd_1272, wd_1273, wd_1274, wd_1⟩
noncomputable abbrev w9_X10_savingsAfter : List Cond := .code yX10_savingsAfter cX10_savingsAfter 3 (some .int) :: ALL
abbrev r9_X10_savingsAfter : Room := { frames := 7, cells := 14, slots := 14, locals := 142 }
theorem cf_X10_savingsAfter : (.instanceMethod yX10_savingsAfter : Cond) ∈ ALL ∧ (.selects RX10 yX10_savingsAfter yX10_savingsAfter : Cond) ∈ ALL ∧ (.code yX10_savingsAfter cX10_savingsAfter 3 (some .int) : Cond) ∈ ALL ∧ (.initialized RX10 : Cond) ∈ ALL := ⟨wd_1279, wd_1280, wd_1281, wd_1⟩
noncomputable abbrev w9_X10_purseAfter : List Cond := .code yX10_purseAfter cX10_purseAfter 3 (some .int) :: ALL
abbrev r9_X10_purseAfter : Room := { frames := 7, cells := 14, slots := 14, locals := 142 }
theorem cf_X10_purseAfter : (.instanceMethod yX10_purseAfter : Cond) ∈ ALL ∧ (.selects RX10 yX10_purseAfter yX10_purseAfter : Cond) ∈ ALL ∧ (.code yX10_purseAfter cX10_purseAfter 3 (some .int) : Cond) ∈ ALL ∧ (.initialized RX10 : Cond) ∈ ALL := ⟨wd_1291, wd_1292, wd_1293, wd_1⟩
noncomputable abbrev w9_X10_desertsIn : List Cond := .code yX10_desertsIn cX10_desertsIn 4 (some .int) :: ALL
abbrev r9_X10_desertsIn : Room := { frames := 7, cells := 7, slots := 7, locals := 121 }
theorem cf_X10_desertsIn : (.instanceMethod yX10_desertsIn : Cond) ∈ ALL ∧ (.selects RX10 yX10_desertsIn yX10_desertsIn : Cond) ∈ ALL ∧ (.code yX10_desertsIn cX10_desertsIn 4 (some .int) : Cond) ∈ ALL ∧ (.initialized RX10 : Cond) ∈ ALL := ⟨wd_1298, wd_1299, wd_1300, wd_1⟩
noncomputable abbrev w9_X10_leastWage : List Cond := .code yX10_leastWage cX10_leastWage 4 (some .int) :: ALL
abbrev r9_X10_leastWage : Room := { frames := 8, cells := 14, slots := 14, locals := 125 }
theorem cf_X10_leastWage : (.instanceMethod yX10_leastWage : Cond) ∈ ALL ∧ (.selects RX10 yX10_leastWage yX10_leastWage : Cond) ∈ ALL ∧ (.code yX10_leastWage cX10_leastWage 4 (some .int) : Cond) ∈ ALL ∧ (.initialized RX10 : Cond) ∈ ALL := ⟨wd_1305, wd_1306, wd_1307, wd_1⟩
noncomputable abbrev w9_X10_bestTest : List Cond := .code yX10_bestTest cX10_bestTest 6 (some .int) :: ALL
abbrev r9_X10_bestTest : Room := { frames := 7, cells := 7, slots := 7, locals := 103 }
theorem cf_X10_bestTest : (.instanceMethod yX10_bestTest : Cond) ∈ ALL ∧ (.selects RX10 yX10_bestTest yX10_bestTest : Cond) ∈ ALL ∧ (.code yX10_bestTest cX10_bestTest 6 (some .int) : Cond) ∈ ALL ∧ (.initialized RX10 : Cond) ∈ ALL := ⟨wd_1312, wd_1313, wd_1314, wd_1⟩
noncomputable abbrev w9_X10_richestEcho : List Cond := .code yX10_richestEcho cX10_richestEcho 3 (some .int) :: ALL
abbrev r9_X10_richestEcho : Room := { frames := 0, cells := 0, slots := 0, locals := 0 }
theorem cf_X10_richestEcho : (.instanceMethod yX10_richestEcho : Cond) ∈ ALL ∧ (.selects RX10 yX10_richestEcho yX10_richestEcho : Cond) ∈ ALL ∧ (.code yX10_richestEcho cX10_richestEcho 3 (some .int) : Cond) ∈ ALL ∧ (.initialized RX10 : Cond) ∈ ALL := ⟨wd_732, wd_733, wd_734, wd_1⟩
noncomputable abbrev w9_X10_daysServed : List Cond := .code yX10_daysServed cX10_daysServed 3 (some .int) :: ALL
abbrev r9_X10_daysServed : Room := { frames := 8, cells := 14, slots := 14, locals := 125 }
theorem cf_X10_daysServed : (.instanceMethod yX10_daysServed : Cond) ∈ ALL ∧ (.selects RX10 yX10_daysServed yX10_daysServed : Cond) ∈ ALL ∧ (.code yX10_daysServed cX10_daysServed 3 (some .int) : Cond) ∈ ALL ∧ (.initialized RX10 : Cond) ∈ ALL := ⟨wd_1320, wd_1321, wd_1322, wd_1⟩
noncomputable abbrev w9_X10_contractsMade : List Cond := .code yX10_contractsMade cX10_contractsMade 1 (some .int) :: ALL
abbrev r9_X10_contractsMade : Room := { frames := 0, cells := 0, slots := 0, locals := 0 }
theorem cf_X10_contractsMade : (.instanceMethod yX10_contractsMade : Cond) ∈ ALL ∧ (.selects RX10 yX10_contractsMade yX10_contractsMade : Cond) ∈ ALL ∧ (.code yX10_contractsMade cX10_contractsMade 1 (some .int) : Cond) ∈ ALL ∧ (.initialized RX10 : Cond) ∈ ALL := ⟨wd_736, wd_737, wd_738, wd_1⟩
noncomputable abbrev w9_X10_contractsEnded : List Cond := .code yX10_contractsEnded cX10_contractsEnded 1 (some .int) :: ALL
abbrev r9_X10_contractsEnded : Room := { frames := 0, cells := 0, slots := 0, locals := 0 }
theorem cf_X10_contractsEnded : (.instanceMethod yX10_contractsEnded : Cond) ∈ ALL ∧ (.selects RX10 yX10_contractsEnded yX10_contractsEnded : Cond) ∈ ALL ∧ (.code yX10_contractsEnded cX10_contractsEnded 1 (some .int) : Cond) ∈ ALL ∧ (.initialized RX10 : Cond) ∈ ALL := ⟨wd_740, wd_741, wd_742, wd_1⟩
noncomputable abbrev w9_X10_desertions : List Cond := .code yX10_desertions cX10_desertions 2 (some .int) :: ALL
abbrev r9_X10_desertions : Room := { frames := 8, cells := 7, slots := 7, locals := 124 }
theorem cf_X10_desertions : (.instanceMethod yX10_desertions : Cond) ∈ ALL ∧ (.selects RX10 yX10_desertions yX10_desertions : Cond) ∈ ALL ∧ (.code yX10_desertions cX10_desertions 2 (some .int) : Cond) ∈ ALL ∧ (.initialized RX10 : Cond) ∈ ALL := ⟨wd_1327, wd_1328, wd_1329, wd_1⟩
noncomputable abbrev w9_X10_repliesHeard : List Cond := .code yX10_repliesHeard cX10_repliesHeard 2 (some .int) :: ALL
abbrev r9_X10_repliesHeard : Room := { frames := 8, cells := 7, slots := 7, locals := 124 }
theorem cf_X10_repliesHeard : (.instanceMethod yX10_repliesHeard : Cond) ∈ ALL ∧ (.selects RX10 yX10_repliesHeard yX10_repliesHeard : Cond) ∈ ALL ∧ (.code yX10_repliesHeard cX10_repliesHeard 2 (some .int) : Cond) ∈ ALL ∧ (.initialized RX10 : Cond) ∈ ALL := ⟨wd_1334, wd_1335, wd_1336, wd_1⟩
noncomputable abbrev w9_X10_wagesPaid : List Cond := .code yX10_wagesPaid cX10_wagesPaid 2 (some .int) :: ALL
abbrev r9_X10_wagesPaid : Room := { frames := 8, cells := 7, slots := 7, locals := 124 }
theorem cf_X10_wagesPaid : (.instanceMethod yX10_wagesPaid : Cond) ∈ ALL ∧ (.selects RX10 yX10_wagesPaid yX10_wagesPaid : Cond) ∈ ALL ∧ (.code yX10_wagesPaid cX10_wagesPaid 2 (some .int) : Cond) ∈ ALL ∧ (.initialized RX10 : Cond) ∈ ALL := ⟨wd_1341, wd_1342, wd_1343, wd_1⟩
noncomputable abbrev w9_X10_moneyImbalance : List Cond := .code yX10_moneyImbalance cX10_moneyImbalance 1 (some .int) :: ALL
abbrev r9_X10_moneyImbalance : Room := { frames := 1, cells := 0, slots := 0, locals := 22 }
theorem cf_X10_moneyImbalance : (.instanceMethod yX10_moneyImbalance : Cond) ∈ ALL ∧ (.selects RX10 yX10_moneyImbalance yX10_moneyImbalance : Cond) ∈ ALL ∧ (.code yX10_moneyImbalance cX10_moneyImbalance 1 (some .int) : Cond) ∈ ALL ∧ (.initialized RX10 : Cond) ∈ ALL := ⟨wd_744, wd_745, wd_746, wd_1⟩
noncomputable abbrev w9_X10_contractImbalance : List Cond := .code yX10_contractImbalance cX10_contractImbalance 1 (some .int) :: ALL
abbrev r9_X10_contractImbalance : Room := { frames := 1, cells := 0, slots := 0, locals := 22 }
theorem cf_X10_contractImbalance : (.instanceMethod yX10_contractImbalance : Cond) ∈ ALL ∧ (.selects RX10 yX10_contractImbalance yX10_contractImbalance : Cond) ∈ ALL ∧ (.code yX10_contractImbalance cX10_contractImbalance 1 (some .int) : Cond) ∈ ALL ∧ (.initialized RX10 : Cond) ∈ ALL := ⟨wd_756, wd_757, wd_758, wd_1⟩
noncomputable abbrev w9_X10_doubleServants : List Cond := .code yX10_doubleServants cX10_doubleServants 3 (some .int) :: ALL
abbrev r9_X10_doubleServants : Room := { frames := 1, cells := 0, slots := 0, locals := 24 }
theorem cf_X10_doubleServants : (.instanceMethod yX10_doubleServants : Cond) ∈ ALL ∧ (.selects RX10 yX10_doubleServants yX10_doubleServants : Cond) ∈ ALL ∧ (.code yX10_doubleServants cX10_doubleServants 3 (some .int) : Cond) ∈ ALL ∧ (.initialized RX10 : Cond) ∈ ALL := ⟨wd_764, wd_765, wd_766, wd_1⟩
noncomputable abbrev w9_X10_meanSavings : List Cond := .code yX10_meanSavings cX10_meanSavings 1 (some .double) :: ALL
abbrev r9_X10_meanSavings : Room := { frames := 1, cells := 0, slots := 0, locals := 22 }
theorem cf_X10_meanSavings : (.instanceMethod yX10_meanSavings : Cond) ∈ ALL ∧ (.selects RX10 yX10_meanSavings yX10_meanSavings : Cond) ∈ ALL ∧ (.code yX10_meanSavings cX10_meanSavings 1 (some .double) : Cond) ∈ ALL ∧ (.initialized RX10 : Cond) ∈ ALL := ⟨wd_772, wd_773, wd_774, wd_1⟩
noncomputable abbrev w9_X10_employmentRate : List Cond := .code yX10_employmentRate cX10_employmentRate 3 (some .float) :: ALL
abbrev r9_X10_employmentRate : Room := { frames := 0, cells := 0, slots := 0, locals := 0 }
theorem cf_X10_employmentRate : (.instanceMethod yX10_employmentRate : Cond) ∈ ALL ∧ (.selects RX10 yX10_employmentRate yX10_employmentRate : Cond) ∈ ALL ∧ (.code yX10_employmentRate cX10_employmentRate 3 (some .float) : Cond) ∈ ALL ∧ (.initialized RX10 : Cond) ∈ ALL := ⟨wd_776, wd_777, wd_778, wd_1⟩
noncomputable abbrev w9_X10_passDays : List Cond := .code yX10_passDays cX10_passDays 2 (some .int) :: ALL
abbrev r9_X10_passDays : Room := { frames := 6, cells := 7, slots := 7, locals := 121 }
theorem cf_X10_passDays : (.instanceMethod yX10_passDays : Cond) ∈ ALL ∧ (.selects RX10 yX10_passDays yX10_passDays : Cond) ∈ ALL ∧ (.code yX10_passDays cX10_passDays 2 (some .int) : Cond) ∈ ALL ∧ (.initialized RX10 : Cond) ∈ ALL := ⟨wd_1348, wd_1349, wd_1350, wd_1⟩
noncomputable abbrev w9_X10_holdFair : List Cond := .code yX10_holdFair cX10_holdFair 1 (some .int) :: ALL
abbrev r9_X10_holdFair : Room := { frames := 4, cells := 0, slots := 0, locals := 97 }
theorem cf_X10_holdFair : (.instanceMethod yX10_holdFair : Cond) ∈ ALL ∧ (.selects RX10 yX10_holdFair yX10_holdFair : Cond) ∈ ALL ∧ (.code yX10_holdFair cX10_holdFair 1 (some .int) : Cond) ∈ ALL ∧ (.initialized RX10 : Cond) ∈ ALL := ⟨wd_780, wd_781, wd_782, wd_1⟩
noncomputable abbrev w9_X10_test : List Cond := .code yX10_test cX10_test 3 (some .int) :: ALL
abbrev r9_X10_test : Room := { frames := 8, cells := 21, slots := 21, locals := 125 }
theorem cf_X10_test : (.instanceMethod yX10_test : Cond) ∈ ALL ∧ (.selects RX10 yX10_test yX10_test : Cond) ∈ ALL ∧ (.code yX10_test cX10_test 3 (some .int) : Cond) ∈ ALL ∧ (.initialized RX10 : Cond) ∈ ALL := ⟨wd_1355, wd_1356, wd_1357, wd_1⟩
noncomputable abbrev w9_X10_dismiss : List Cond := .code yX10_dismiss cX10_dismiss 3 (some .int) :: ALL
abbrev r9_X10_dismiss : Room := { frames := 8, cells := 14, slots := 14, locals := 124 }
theorem cf_X10_dismiss : (.instanceMethod yX10_dismiss : Cond) ∈ ALL ∧ (.selects RX10 yX10_dismiss yX10_dismiss : Cond) ∈ ALL ∧ (.code yX10_dismiss cX10_dismiss 3 (some .int) : Cond) ∈ ALL ∧ (.initialized RX10 : Cond) ∈ ALL := ⟨wd_1363, wd_1364, wd_1365, wd_1⟩
noncomputable abbrev w9_X10_setWage : List Cond := .code yX10_setWage cX10_setWage 5 (some .int) :: ALL
abbrev r9_X10_setWage : Room := { frames := 8, cells := 14, slots := 14, locals := 124 }
theorem cf_X10_setWage : (.instanceMethod yX10_setWage : Cond) ∈ ALL ∧ (.selects RX10 yX10_setWage yX10_setWage : Cond) ∈ ALL ∧ (.code yX10_setWage cX10_setWage 5 (some .int) : Cond) ∈ ALL ∧ (.initialized RX10 : Cond) ∈ ALL := ⟨wd_1371, wd_1372, wd_1373, wd_1⟩
noncomputable abbrev w9_X10_fund : List Cond := .code yX10_fund cX10_fund 4 (some .int) :: ALL
abbrev r9_X10_fund : Room := { frames := 8, cells := 14, slots := 14, locals := 124 }
theorem cf_X10_fund : (.instanceMethod yX10_fund : Cond) ∈ ALL ∧ (.selects RX10 yX10_fund yX10_fund : Cond) ∈ ALL ∧ (.code yX10_fund cX10_fund 4 (some .int) : Cond) ∈ ALL ∧ (.initialized RX10 : Cond) ∈ ALL := ⟨wd_1379, wd_1380, wd_1381, wd_1⟩
noncomputable abbrev w9_X10_train : List Cond := .code yX10_train cX10_train 3 (some .int) :: ALL
abbrev r9_X10_train : Room := { frames := 8, cells := 14, slots := 14, locals := 124 }
theorem cf_X10_train : (.instanceMethod yX10_train : Cond) ∈ ALL ∧ (.selects RX10 yX10_train yX10_train : Cond) ∈ ALL ∧ (.code yX10_train cX10_train 3 (some .int) : Cond) ∈ ALL ∧ (.initialized RX10 : Cond) ∈ ALL := ⟨wd_1387, wd_1388, wd_1389, wd_1⟩
noncomputable abbrev w9_X10_undo : List Cond := .code yX10_undo cX10_undo 1 (some .int) :: ALL
abbrev r9_X10_undo : Room := { frames := 6, cells := 7, slots := 7, locals := 90 }
theorem cf_X10_undo : (.instanceMethod yX10_undo : Cond) ∈ ALL ∧ (.selects RX10 yX10_undo yX10_undo : Cond) ∈ ALL ∧ (.code yX10_undo cX10_undo 1 (some .int) : Cond) ∈ ALL ∧ (.initialized RX10 : Cond) ∈ ALL := ⟨wd_1395, wd_1396, wd_1397, wd_1⟩
noncomputable abbrev w9_X10_save : List Cond := .code yX10_save cX10_save 1 (some .int) :: ALL
abbrev r9_X10_save : Room := { frames := 3, cells := 0, slots := 0, locals := 69 }
theorem cf_X10_save : (.instanceMethod yX10_save : Cond) ∈ ALL ∧ (.selects RX10 yX10_save yX10_save : Cond) ∈ ALL ∧ (.code yX10_save cX10_save 1 (some .int) : Cond) ∈ ALL ∧ (.initialized RX10 : Cond) ∈ ALL := ⟨wd_836, wd_837, wd_838, wd_1⟩
noncomputable abbrev w9_X10_restore : List Cond := .code yX10_restore cX10_restore 1 (some .int) :: ALL
abbrev r9_X10_restore : Room := { frames := 6, cells := 7, slots := 7, locals := 82 }
theorem cf_X10_restore : (.instanceMethod yX10_restore : Cond) ∈ ALL ∧ (.selects RX10 yX10_restore yX10_restore : Cond) ∈ ALL ∧ (.code yX10_restore cX10_restore 1 (some .int) : Cond) ∈ ALL ∧ (.initialized RX10 : Cond) ∈ ALL := ⟨wd_1407, wd_1408, wd_1409, wd_1⟩
noncomputable abbrev w9_X10_formatContracts : List Cond := .code yX10_formatContracts cX10_formatContracts 2 (some .int) :: ALL
abbrev r9_X10_formatContracts : Room := { frames := 3, cells := 0, slots := 0, locals := 67 }
theorem cf_X10_formatContracts : (.instanceMethod yX10_formatContracts : Cond) ∈ ALL ∧ (.selects RX10 yX10_formatContracts yX10_formatContracts : Cond) ∈ ALL ∧ (.code yX10_formatContracts cX10_formatContracts 2 (some .int) : Cond) ∈ ALL ∧ (.initialized RX10 : Cond) ∈ ALL := ⟨wd_840, wd_841, wd_842, wd_1⟩
noncomputable abbrev w9_X10_outputByte : List Cond := .code yX10_outputByte cX10_outputByte 2 (some .int) :: ALL
abbrev r9_X10_outputByte : Room := { frames := 0, cells := 0, slots := 0, locals := 0 }
theorem cf_X10_outputByte : (.instanceMethod yX10_outputByte : Cond) ∈ ALL ∧ (.selects RX10 yX10_outputByte yX10_outputByte : Cond) ∈ ALL ∧ (.code yX10_outputByte cX10_outputByte 2 (some .int) : Cond) ∈ ALL ∧ (.initialized RX10 : Cond) ∈ ALL := ⟨wd_853, wd_854, wd_855, wd_1⟩
noncomputable abbrev w9_X10_requireEcho : List Cond := .code yX10_requireEcho cX10_requireEcho 2 none :: ALL
abbrev r9_X10_requireEcho : Room := { frames := 6, cells := 7, slots := 7, locals := 82 }
theorem cf_X10_requireEcho : (.instanceMethod yX10_requireEcho : Cond) ∈ ALL ∧ (.selects RX10 yX10_requireEcho yX10_requireEcho : Cond) ∈ ALL ∧ (.code yX10_requireEcho cX10_requireEcho 2 none : Cond) ∈ ALL ∧ (.initialized RX10 : Cond) ∈ ALL := ⟨wd_1106, wq_28, wd_1107, wd_1⟩
noncomputable abbrev w9_X10_requireValley : List Cond := .code yX10_requireValley cX10_requireValley 2 none :: ALL
abbrev r9_X10_requireValley : Room := { frames := 6, cells := 7, slots := 7, locals := 82 }
theorem cf_X10_requireValley : (.instanceMethod yX10_requireValley : Cond) ∈ ALL ∧ (.selects RX10 yX10_requireValley yX10_requireValley : Cond) ∈ ALL ∧ (.code yX10_requireValley cX10_requireValley 2 none : Cond) ∈ ALL ∧ (.initialized RX10 : Cond) ∈ ALL := ⟨wd_1179, wq_30, wd_1180, wd_1⟩
noncomputable abbrev w9_X10_requirePair : List Cond := .code yX10_requirePair cX10_requirePair 3 none :: ALL
abbrev r9_X10_requirePair : Room := { frames := 7, cells := 14, slots := 14, locals := 103 }
theorem cf_X10_requirePair : (.instanceMethod yX10_requirePair : Cond) ∈ ALL ∧ (.selects RX10 yX10_requirePair yX10_requirePair : Cond) ∈ ALL ∧ (.code yX10_requirePair cX10_requirePair 3 none : Cond) ∈ ALL ∧ (.initialized RX10 : Cond) ∈ ALL := ⟨wd_1226, wq_31, wd_1227, wd_1⟩
noncomputable abbrev w9_X10_echoAt : List Cond := .code yX10_echoAt cX10_echoAt 2 (some (.object "EchoFair$Echo")) :: ALL
abbrev r9_X10_echoAt : Room := { frames := 7, cells := 7, slots := 7, locals := 103 }
theorem cf_X10_echoAt : (.instanceMethod yX10_echoAt : Cond) ∈ ALL ∧ (.selects RX10 yX10_echoAt yX10_echoAt : Cond) ∈ ALL ∧ (.code yX10_echoAt cX10_echoAt 2 (some (.object "EchoFair$Echo")) : Cond) ∈ ALL ∧ (.initialized RX10 : Cond) ∈ ALL := ⟨wd_1102, wq_27, wd_1103, wd_1⟩
noncomputable abbrev w9_X10_valleyAt : List Cond := .code yX10_valleyAt cX10_valleyAt 2 (some (.object "EchoFair$Valley")) :: ALL
abbrev r9_X10_valleyAt : Room := { frames := 7, cells := 7, slots := 7, locals := 103 }
theorem cf_X10_valleyAt : (.instanceMethod yX10_valleyAt : Cond) ∈ ALL ∧ (.selects RX10 yX10_valleyAt yX10_valleyAt : Cond) ∈ ALL ∧ (.code yX10_valleyAt cX10_valleyAt 2 (some (.object "EchoFair$Valley")) : Cond) ∈ ALL ∧ (.initialized RX10 : Cond) ∈ ALL := ⟨wd_1175, wq_29, wd_1176, wd_1⟩
noncomputable abbrev w9_X10_adoptDraft : List Cond := .code yX10_adoptDraft cX10_adoptDraft 1 none :: ALL
abbrev r9_X10_adoptDraft : Room := { frames := 3, cells := 0, slots := 0, locals := 69 }
theorem cf_X10_adoptDraft : (.instanceMethod yX10_adoptDraft : Cond) ∈ ALL ∧ (.selects RX10 yX10_adoptDraft yX10_adoptDraft : Cond) ∈ ALL ∧ (.code yX10_adoptDraft cX10_adoptDraft 1 none : Cond) ∈ ALL ∧ (.initialized RX10 : Cond) ∈ ALL := ⟨wd_576, wq_8, wd_577, wd_1⟩
noncomputable abbrev w9_X10_noteErrors : List Cond := .code yX10_noteErrors cX10_noteErrors 1 none :: ALL
abbrev r9_X10_noteErrors : Room := { frames := 0, cells := 0, slots := 0, locals := 0 }
theorem cf_X10_noteErrors : (.instanceMethod yX10_noteErrors : Cond) ∈ ALL ∧ (.selects RX10 yX10_noteErrors yX10_noteErrors : Cond) ∈ ALL ∧ (.code yX10_noteErrors cX10_noteErrors 1 none : Cond) ∈ ALL ∧ (.initialized RX10 : Cond) ∈ ALL := ⟨wd_968, wq_19, wd_969, wd_1⟩
noncomputable abbrev w9_X10_simulate : List Cond := .code yX10_simulate cX10_simulate 2 none :: ALL
abbrev r9_X10_simulate : Room := { frames := 6, cells := 7, slots := 7, locals := 121 }
theorem cf_X10_simulate : (.instanceMethod yX10_simulate : Cond) ∈ ALL ∧ (.selects RX10 yX10_simulate yX10_simulate : Cond) ∈ ALL ∧ (.code yX10_simulate cX10_simulate 2 none : Cond) ∈ ALL ∧ (.initialized RX10 : Cond) ∈ ALL := ⟨wd_1284, wq_32, wd_1285, wd_1⟩
noncomputable abbrev w9_X10_letDaysPass : List Cond := .code yX10_letDaysPass cX10_letDaysPass 5 (some .int) :: ALL
abbrev r9_X10_letDaysPass : Room := { frames := 4, cells := 0, slots := 0, locals := 97 }
theorem cf_X10_letDaysPass : (.instanceMethod yX10_letDaysPass : Cond) ∈ ALL ∧ (.selects RX10 yX10_letDaysPass yX10_letDaysPass : Cond) ∈ ALL ∧ (.code yX10_letDaysPass cX10_letDaysPass 5 (some .int) : Cond) ∈ ALL ∧ (.initialized RX10 : Cond) ∈ ALL := ⟨wd_1016, wq_24, wd_1017, wd_1⟩
noncomputable abbrev w9_X10_perform : List Cond := .code yX10_perform cX10_perform 4 (some .boolean) :: ALL
abbrev r9_X10_perform : Room := { frames := 5, cells := 0, slots := 0, locals := 121 }
theorem cf_X10_perform : (.instanceMethod yX10_perform : Cond) ∈ ALL ∧ (.selects RX10 yX10_perform yX10_perform : Cond) ∈ ALL ∧ (.code yX10_perform cX10_perform 4 (some .boolean) : Cond) ∈ ALL ∧ (.initialized RX10 : Cond) ∈ ALL := ⟨wd_1012, wq_23, wd_1013, wd_1⟩
noncomputable abbrev w9_X10_writeContracts : List Cond := .code yX10_writeContracts cX10_writeContracts 3 none :: ALL
abbrev r9_X10_writeContracts : Room := { frames := 2, cells := 0, slots := 0, locals := 45 }
theorem cf_X10_writeContracts : (.instanceMethod yX10_writeContracts : Cond) ∈ ALL ∧ (.selects RX10 yX10_writeContracts yX10_writeContracts : Cond) ∈ ALL ∧ (.code yX10_writeContracts cX10_writeContracts 3 none : Cond) ∈ ALL ∧ (.initialized RX10 : Cond) ∈ ALL := ⟨wd_845, wq_17, wd_846, wd_1⟩
noncomputable abbrev w9_X11_init : List Cond := .code yX11_init cX11_init 3 none :: ALL
abbrev r9_X11_init : Room := { frames := 8, cells := 8926, slots := 8926, locals := 171 }
theorem cf_X11_init : (.instanceMethod yX11_init : Cond) ∈ ALL ∧ (.initialized RX11 : Cond) ∈ ALL ∧ (.code yX11_init cX11_init 3 none : Cond) ∈ ALL ∧ (.initialized RX11 : Cond) ∈ ALL := ⟨wd_1414, wd_18, wd_1415, wd_18⟩
noncomputable abbrev w9_X11_in : List Cond := .code yX11_in cX11_in 6 (some .boolean) :: ALL
abbrev r9_X11_in : Room := { frames := 0, cells := 0, slots := 0, locals := 0 }
theorem cf_X11_in : (.static yX11_in : Cond) ∈ ALL ∧ (.initialized RX11 : Cond) ∈ ALL ∧ (.code yX11_in cX11_in 6 (some .boolean) : Cond) ∈ ALL ∧ (.initialized RX11 : Cond) ∈ ALL := ⟨wd_1451, wd_18, wd_1452, wd_18⟩
noncomputable abbrev w9_X11_truth : List Cond := .code yX11_truth cX11_truth 1 (some .int) :: ALL
abbrev r9_X11_truth : Room := { frames := 0, cells := 0, slots := 0, locals := 0 }
theorem cf_X11_truth : (.static yX11_truth : Cond) ∈ ALL ∧ (.initialized RX11 : Cond) ∈ ALL ∧ (.code yX11_truth cX11_truth 1 (some .int) : Cond) ∈ ALL ∧ (.initialized RX11 : Cond) ∈ ALL := ⟨wd_1968, wd_18, wd_1969, wd_18⟩
noncomputable abbrev w9_X11_passes : List Cond := .code yX11_passes cX11_passes 2 (some .boolean) :: ALL
abbrev r9_X11_passes : Room := { frames := 0, cells := 0, slots := 0, locals := 0 }
theorem cf_X11_passes : (.instanceMethod yX11_passes : Cond) ∈ ALL ∧ (.selects RX11 yX11_passes yX11_passes : Cond) ∈ ALL ∧ (.code yX11_passes cX11_passes 2 (some .boolean) : Cond) ∈ ALL ∧ (.initialized RX11 : Cond) ∈ ALL := ⟨wd_1540, wq_56, wd_1541, wd_18⟩
noncomputable abbrev w9_X11_passesBoth : List Cond := .code yX11_passesBoth cX11_passesBoth 3 (some .boolean) :: ALL
abbrev r9_X11_passesBoth : Room := { frames := 0, cells := 0, slots := 0, locals := 0 }
theorem cf_X11_passesBoth : (.instanceMethod yX11_passesBoth : Cond) ∈ ALL ∧ (.selects RX11 yX11_passesBoth yX11_passesBoth : Cond) ∈ ALL ∧ (.code yX11_passesBoth cX11_passesBoth 3 (some .boolean) : Cond) ∈ ALL ∧ (.initialized RX11 : Cond) ∈ ALL := ⟨wd_2020, wq_117, wd_2021, wd_18⟩
noncomputable abbrev w9_X11_copies : List Cond := .code yX11_copies cX11_copies 5 none :: ALL
abbrev r9_X11_copies : Room := { frames := 0, cells := 0, slots := 0, locals := 0 }
theorem cf_X11_copies : (.static yX11_copies : Cond) ∈ ALL ∧ (.initialized RX11 : Cond) ∈ ALL ∧ (.code yX11_copies cX11_copies 5 none : Cond) ∈ ALL ∧ (.initialized RX11 : Cond) ∈ ALL := ⟨wd_1425, wd_18, wd_1426, wd_18⟩
noncomputable abbrev w9_X11_tries : List Cond := .code yX11_tries cX11_tries 1 none :: ALL
abbrev r9_X11_tries : Room := { frames := 1, cells := 0, slots := 0, locals := 24 }
theorem cf_X11_tries : (.instanceMethod yX11_tries : Cond) ∈ ALL ∧ (.selects RX11 yX11_tries yX11_tries : Cond) ∈ ALL ∧ (.code yX11_tries cX11_tries 1 none : Cond) ∈ ALL ∧ (.initialized RX11 : Cond) ∈ ALL := ⟨wd_2004, wq_115, wd_2005, wd_18⟩
noncomputable abbrev w9_X11_laidBack : List Cond := .code yX11_laidBack cX11_laidBack 2 (some .int) :: ALL
abbrev r9_X11_laidBack : Room := { frames := 1, cells := 0, slots := 0, locals := 24 }
theorem cf_X11_laidBack : (.instanceMethod yX11_laidBack : Cond) ∈ ALL ∧ (.selects RX11 yX11_laidBack yX11_laidBack : Cond) ∈ ALL ∧ (.code yX11_laidBack cX11_laidBack 2 (some .int) : Cond) ∈ ALL ∧ (.initialized RX11 : Cond) ∈ ALL := ⟨wd_2008, wq_116, wd_2009, wd_18⟩
noncomputable abbrev w9_X11_of : List Cond := .code yX11_of cX11_of 3 (some .int) :: ALL
abbrev r9_X11_of : Room := { frames := 0, cells := 0, slots := 0, locals := 0 }
theorem cf_X11_of : (.instanceMethod yX11_of : Cond) ∈ ALL ∧ (.selects RX11 yX11_of yX11_of : Cond) ∈ ALL ∧ (.code yX11_of cX11_of 3 (some .int) : Cond) ∈ ALL ∧ (.initialized RX11 : Cond) ∈ ALL := ⟨wd_1693, wq_66, wd_1694, wd_18⟩
noncomputable abbrev w9_X11_puts : List Cond := .code yX11_puts cX11_puts 4 none :: ALL
abbrev r9_X11_puts : Room := { frames := 0, cells := 0, slots := 0, locals := 0 }
theorem cf_X11_puts : (.instanceMethod yX11_puts : Cond) ∈ ALL ∧ (.selects RX11 yX11_puts yX11_puts : Cond) ∈ ALL ∧ (.code yX11_puts cX11_puts 4 none : Cond) ∈ ALL ∧ (.initialized RX11 : Cond) ∈ ALL := ⟨wd_1511, wq_50, wd_1512, wd_18⟩
noncomputable abbrev w9_X11_ofValley : List Cond := .code yX11_ofValley cX11_ofValley 3 (some .int) :: ALL
abbrev r9_X11_ofValley : Room := { frames := 0, cells := 0, slots := 0, locals := 0 }
theorem cf_X11_ofValley : (.instanceMethod yX11_ofValley : Cond) ∈ ALL ∧ (.selects RX11 yX11_ofValley yX11_ofValley : Cond) ∈ ALL ∧ (.code yX11_ofValley cX11_ofValley 3 (some .int) : Cond) ∈ ALL ∧ (.initialized RX11 : Cond) ∈ ALL := ⟨wd_1721, wq_73, wd_1722, wd_18⟩
noncomputable abbrev w9_X11_putsValley : List Cond := .code yX11_putsValley cX11_putsValley 4 none :: ALL
abbrev r9_X11_putsValley : Room := { frames := 0, cells := 0, slots := 0, locals := 0 }
theorem cf_X11_putsValley : (.instanceMethod yX11_putsValley : Cond) ∈ ALL ∧ (.selects RX11 yX11_putsValley yX11_putsValley : Cond) ∈ ALL ∧ (.code yX11_putsValley cX11_putsValley 4 none : Cond) ∈ ALL ∧ (.initialized RX11 : Cond) ∈ ALL := ⟨wd_1520, wq_52, wd_1521, wd_18⟩
noncomputable abbrev w9_X11_pair : List Cond := .code yX11_pair cX11_pair 3 (some .int) :: ALL
abbrev r9_X11_pair : Room := { frames := 0, cells := 0, slots := 0, locals := 0 }
theorem cf_X11_pair : (.static yX11_pair : Cond) ∈ ALL ∧ (.initialized RX11 : Cond) ∈ ALL ∧ (.code yX11_pair cX11_pair 3 (some .int) : Cond) ∈ ALL ∧ (.initialized RX11 : Cond) ∈ ALL := ⟨wd_1532, wd_18, wd_1533, wd_18⟩
noncomputable abbrev w9_X11_isEcho : List Cond := .code yX11_isEcho cX11_isEcho 2 (some .boolean) :: ALL
abbrev r9_X11_isEcho : Room := { frames := 1, cells := 0, slots := 0, locals := 25 }
theorem cf_X11_isEcho : (.instanceMethod yX11_isEcho : Cond) ∈ ALL ∧ (.selects RX11 yX11_isEcho yX11_isEcho : Cond) ∈ ALL ∧ (.code yX11_isEcho cX11_isEcho 2 (some .boolean) : Cond) ∈ ALL ∧ (.initialized RX11 : Cond) ∈ ALL := ⟨wd_1885, wq_105, wd_1886, wd_18⟩
noncomputable abbrev w9_X11_isValley : List Cond := .code yX11_isValley cX11_isValley 2 (some .boolean) :: ALL
abbrev r9_X11_isValley : Room := { frames := 1, cells := 0, slots := 0, locals := 25 }
theorem cf_X11_isValley : (.instanceMethod yX11_isValley : Cond) ∈ ALL ∧ (.selects RX11 yX11_isValley yX11_isValley : Cond) ∈ ALL ∧ (.code yX11_isValley cX11_isValley 2 (some .boolean) : Cond) ∈ ALL ∧ (.initialized RX11 : Cond) ∈ ALL := ⟨wd_1921, wq_107, wd_1922, wd_18⟩
noncomputable abbrev w9_X11_areBoth : List Cond := .code yX11_areBoth cX11_areBoth 3 (some .boolean) :: ALL
abbrev r9_X11_areBoth : Room := { frames := 2, cells := 0, slots := 0, locals := 46 }
theorem cf_X11_areBoth : (.instanceMethod yX11_areBoth : Cond) ∈ ALL ∧ (.selects RX11 yX11_areBoth yX11_areBoth : Cond) ∈ ALL ∧ (.code yX11_areBoth cX11_areBoth 3 (some .boolean) : Cond) ∈ ALL ∧ (.initialized RX11 : Cond) ∈ ALL := ⟨wd_1949, wq_108, wd_1950, wd_18⟩
noncomputable abbrev w9_X11_employer : List Cond := .code yX11_employer cX11_employer 2 (some .int) :: ALL
abbrev r9_X11_employer : Room := { frames := 1, cells := 0, slots := 0, locals := 22 }
theorem cf_X11_employer : (.instanceMethod yX11_employer : Cond) ∈ ALL ∧ (.selects RX11 yX11_employer yX11_employer : Cond) ∈ ALL ∧ (.code yX11_employer cX11_employer 2 (some .int) : Cond) ∈ ALL ∧ (.initialized RX11 : Cond) ∈ ALL := ⟨wd_1717, wq_72, wd_1718, wd_18⟩
noncomputable abbrev w9_X11_hasContract : List Cond := .code yX11_hasContract cX11_hasContract 2 (some .boolean) :: ALL
abbrev r9_X11_hasContract : Room := { frames := 1, cells := 0, slots := 0, locals := 22 }
theorem cf_X11_hasContract : (.instanceMethod yX11_hasContract : Cond) ∈ ALL ∧ (.selects RX11 yX11_hasContract yX11_hasContract : Cond) ∈ ALL ∧ (.code yX11_hasContract cX11_hasContract 2 (some .boolean) : Cond) ∈ ALL ∧ (.initialized RX11 : Cond) ∈ ALL := ⟨wd_1709, wq_70, wd_1710, wd_18⟩
noncomputable abbrev w9_X11_freePosts : List Cond := .code yX11_freePosts cX11_freePosts 2 (some .int) :: ALL
abbrev r9_X11_freePosts : Room := { frames := 1, cells := 0, slots := 0, locals := 22 }
theorem cf_X11_freePosts : (.instanceMethod yX11_freePosts : Cond) ∈ ALL ∧ (.selects RX11 yX11_freePosts yX11_freePosts : Cond) ∈ ALL ∧ (.code yX11_freePosts cX11_freePosts 2 (some .int) : Cond) ∈ ALL ∧ (.initialized RX11 : Cond) ∈ ALL := ⟨wd_1772, wq_85, wd_1773, wd_18⟩
noncomputable abbrev w9_X11_fogNow : List Cond := .code yX11_fogNow cX11_fogNow 2 (some .int) :: ALL
abbrev r9_X11_fogNow : Room := { frames := 0, cells := 0, slots := 0, locals := 0 }
theorem cf_X11_fogNow : (.instanceMethod yX11_fogNow : Cond) ∈ ALL ∧ (.selects RX11 yX11_fogNow yX11_fogNow : Cond) ∈ ALL ∧ (.code yX11_fogNow cX11_fogNow 2 (some .int) : Cond) ∈ ALL ∧ (.initialized RX11 : Cond) ∈ ALL := ⟨wd_1804, wq_93, wd_1805, wd_18⟩
noncomputable abbrev w9_X11_trueScore : List Cond := .code yX11_trueScore cX11_trueScore 3 (some .int) :: ALL
abbrev r9_X11_trueScore : Room := { frames := 1, cells := 0, slots := 0, locals := 22 }
theorem cf_X11_trueScore : (.instanceMethod yX11_trueScore : Cond) ∈ ALL ∧ (.selects RX11 yX11_trueScore yX11_trueScore : Cond) ∈ ALL ∧ (.code yX11_trueScore cX11_trueScore 3 (some .int) : Cond) ∈ ALL ∧ (.initialized RX11 : Cond) ∈ ALL := ⟨wd_1757, wq_82, wd_1758, wd_18⟩
noncomputable abbrev w9_X11_seen : List Cond := .code yX11_seen cX11_seen 3 (some .int) :: ALL
abbrev r9_X11_seen : Room := { frames := 2, cells := 0, slots := 0, locals := 44 }
theorem cf_X11_seen : (.instanceMethod yX11_seen : Cond) ∈ ALL ∧ (.selects RX11 yX11_seen yX11_seen : Cond) ∈ ALL ∧ (.code yX11_seen cX11_seen 3 (some .int) : Cond) ∈ ALL ∧ (.initialized RX11 : Cond) ∈ ALL := ⟨wd_1753, wq_81, wd_1754, wd_18⟩
noncomputable abbrev w9_X11_reasonOf : List Cond := .code yX11_reasonOf cX11_reasonOf 3 (some .int) :: ALL
abbrev r9_X11_reasonOf : Room := { frames := 3, cells := 0, slots := 0, locals := 66 }
theorem cf_X11_reasonOf : (.instanceMethod yX11_reasonOf : Cond) ∈ ALL ∧ (.selects RX11 yX11_reasonOf yX11_reasonOf : Cond) ∈ ALL ∧ (.code yX11_reasonOf cX11_reasonOf 3 (some .int) : Cond) ∈ ALL ∧ (.initialized RX11 : Cond) ∈ ALL := ⟨wd_1749, wq_80, wd_1750, wd_18⟩
noncomputable abbrev w9_X11_isAcceptable : List Cond := .code yX11_isAcceptable cX11_isAcceptable 3 (some .boolean) :: ALL
abbrev r9_X11_isAcceptable : Room := { frames := 4, cells := 0, slots := 0, locals := 88 }
theorem cf_X11_isAcceptable : (.instanceMethod yX11_isAcceptable : Cond) ∈ ALL ∧ (.selects RX11 yX11_isAcceptable yX11_isAcceptable : Cond) ∈ ALL ∧ (.code yX11_isAcceptable cX11_isAcceptable 3 (some .boolean) : Cond) ∈ ALL ∧ (.initialized RX11 : Cond) ∈ ALL := ⟨wd_1745, wq_79, wd_1746, wd_18⟩
noncomputable abbrev w9_X11_isBetterValley : List Cond := .code yX11_isBetterValley cX11_isBetterValley 4 (some .boolean) :: ALL
abbrev r9_X11_isBetterValley : Room := { frames := 1, cells := 0, slots := 0, locals := 22 }
theorem cf_X11_isBetterValley : (.instanceMethod yX11_isBetterValley : Cond) ∈ ALL ∧ (.selects RX11 yX11_isBetterValley yX11_isBetterValley : Cond) ∈ ALL ∧ (.code yX11_isBetterValley cX11_isBetterValley 4 (some .boolean) : Cond) ∈ ALL ∧ (.initialized RX11 : Cond) ∈ ALL := ⟨wd_1764, wq_83, wd_1765, wd_18⟩
noncomputable abbrev w9_X11_isBetterEcho : List Cond := .code yX11_isBetterEcho cX11_isBetterEcho 5 (some .boolean) :: ALL
abbrev r9_X11_isBetterEcho : Room := { frames := 3, cells := 0, slots := 0, locals := 66 }
theorem cf_X11_isBetterEcho : (.instanceMethod yX11_isBetterEcho : Cond) ∈ ALL ∧ (.selects RX11 yX11_isBetterEcho yX11_isBetterEcho : Cond) ∈ ALL ∧ (.code yX11_isBetterEcho cX11_isBetterEcho 5 (some .boolean) : Cond) ∈ ALL ∧ (.initialized RX11 : Cond) ∈ ALL := ⟨wd_1780, wq_87, wd_1781, wd_18⟩
noncomputable abbrev w9_X11_contractComes : List Cond := .code yX11_contractComes cX11_contractComes 4 none :: ALL
abbrev r9_X11_contractComes : Room := { frames := 1, cells := 0, slots := 0, locals := 23 }
theorem cf_X11_contractComes : (.instanceMethod yX11_contractComes : Cond) ∈ ALL ∧ (.selects RX11 yX11_contractComes yX11_contractComes : Cond) ∈ ALL ∧ (.code yX11_contractComes cX11_contractComes 4 none : Cond) ∈ ALL ∧ (.initialized RX11 : Cond) ∈ ALL := ⟨wd_1788, wq_89, wd_1789, wd_18⟩
noncomputable abbrev w9_X11_contractEnds : List Cond := .code yX11_contractEnds cX11_contractEnds 6 none :: ALL
abbrev r9_X11_contractEnds : Room := { frames := 2, cells := 0, slots := 0, locals := 43 }
theorem cf_X11_contractEnds : (.instanceMethod yX11_contractEnds : Cond) ∈ ALL ∧ (.selects RX11 yX11_contractEnds yX11_contractEnds : Cond) ∈ ALL ∧ (.code yX11_contractEnds cX11_contractEnds 6 none : Cond) ∈ ALL ∧ (.initialized RX11 : Cond) ∈ ALL := ⟨wd_1713, wq_71, wd_1714, wd_18⟩
noncomputable abbrev w9_X11_enqueues : List Cond := .code yX11_enqueues cX11_enqueues 2 none :: ALL
abbrev r9_X11_enqueues : Room := { frames := 0, cells := 0, slots := 0, locals := 0 }
theorem cf_X11_enqueues : (.instanceMethod yX11_enqueues : Cond) ∈ ALL ∧ (.selects RX11 yX11_enqueues yX11_enqueues : Cond) ∈ ALL ∧ (.code yX11_enqueues cX11_enqueues 2 none : Cond) ∈ ALL ∧ (.initialized RX11 : Cond) ∈ ALL := ⟨wd_1733, wq_76, wd_1734, wd_18⟩
noncomputable abbrev w9_X11_dequeues : List Cond := .code yX11_dequeues cX11_dequeues 2 (some .int) :: ALL
abbrev r9_X11_dequeues : Room := { frames := 0, cells := 0, slots := 0, locals := 0 }
theorem cf_X11_dequeues : (.instanceMethod yX11_dequeues : Cond) ∈ ALL ∧ (.selects RX11 yX11_dequeues yX11_dequeues : Cond) ∈ ALL ∧ (.code yX11_dequeues cX11_dequeues 2 (some .int) : Cond) ∈ ALL ∧ (.initialized RX11 : Cond) ∈ ALL := ⟨wd_1737, wq_77, wd_1738, wd_18⟩
noncomputable abbrev w9_X11_nextValley : List Cond := .code yX11_nextValley cX11_nextValley 4 (some .int) :: ALL
abbrev r9_X11_nextValley : Room := { frames := 5, cells := 0, slots := 0, locals := 110 }
theorem cf_X11_nextValley : (.instanceMethod yX11_nextValley : Cond) ∈ ALL ∧ (.selects RX11 yX11_nextValley yX11_nextValley : Cond) ∈ ALL ∧ (.code yX11_nextValley cX11_nextValley 4 (some .int) : Cond) ∈ ALL ∧ (.initialized RX11 : Cond) ∈ ALL := ⟨wd_1741, wq_78, wd_1742, wd_18⟩
noncomputable abbrev w9_X11_leastKept : List Cond := .code yX11_leastKept cX11_leastKept 4 (some .int) :: ALL
abbrev r9_X11_leastKept : Room := { frames := 4, cells := 0, slots := 0, locals := 90 }
theorem cf_X11_leastKept : (.instanceMethod yX11_leastKept : Cond) ∈ ALL ∧ (.selects RX11 yX11_leastKept yX11_leastKept : Cond) ∈ ALL ∧ (.code yX11_leastKept cX11_leastKept 4 (some .int) : Cond) ∈ ALL ∧ (.initialized RX11 : Cond) ∈ ALL := ⟨wd_1776, wq_86, wd_1777, wd_18⟩
noncomputable abbrev w9_X11_applies : List Cond := .code yX11_applies cX11_applies 5 none :: ALL
abbrev r9_X11_applies : Room := { frames := 5, cells := 0, slots := 0, locals := 113 }
theorem cf_X11_applies : (.instanceMethod yX11_applies : Cond) ∈ ALL ∧ (.selects RX11 yX11_applies yX11_applies : Cond) ∈ ALL ∧ (.code yX11_applies cX11_applies 5 none : Cond) ∈ ALL ∧ (.initialized RX11 : Cond) ∈ ALL := ⟨wd_1768, wq_84, wd_1769, wd_18⟩
noncomputable abbrev w9_X11_startsFair : List Cond := .code yX11_startsFair cX11_startsFair 2 none :: ALL
abbrev r9_X11_startsFair : Room := { frames := 2, cells := 0, slots := 0, locals := 43 }
theorem cf_X11_startsFair : (.instanceMethod yX11_startsFair : Cond) ∈ ALL ∧ (.selects RX11 yX11_startsFair yX11_startsFair : Cond) ∈ ALL ∧ (.code yX11_startsFair cX11_startsFair 2 none : Cond) ∈ ALL ∧ (.initialized RX11 : Cond) ∈ ALL := ⟨wd_1729, wq_75, wd_1730, wd_18⟩
noncomputable abbrev w9_X11_isKept : List Cond := .code yX11_isKept cX11_isKept 4 (some .boolean) :: ALL
abbrev r9_X11_isKept : Room := { frames := 0, cells := 0, slots := 0, locals := 0 }
theorem cf_X11_isKept : (.instanceMethod yX11_isKept : Cond) ∈ ALL ∧ (.selects RX11 yX11_isKept yX11_isKept : Cond) ∈ ALL ∧ (.code yX11_isKept cX11_isKept 4 (some .boolean) : Cond) ∈ ALL ∧ (.initialized RX11 : Cond) ∈ ALL := ⟨wd_1784, wq_88, wd_1785, wd_18⟩
noncomputable abbrev w9_X11_fairNow : List Cond := .code yX11_fairNow cX11_fairNow 3 none :: ALL
abbrev r9_X11_fairNow : Room := { frames := 6, cells := 0, slots := 0, locals := 137 }
theorem cf_X11_fairNow : (.instanceMethod yX11_fairNow : Cond) ∈ ALL ∧ (.selects RX11 yX11_fairNow yX11_fairNow : Cond) ∈ ALL ∧ (.code yX11_fairNow cX11_fairNow 3 none : Cond) ∈ ALL ∧ (.initialized RX11 : Cond) ∈ ALL := ⟨wd_1725, wq_74, wd_1726, wd_18⟩
noncomputable abbrev w9_X11_beginsSeason : List Cond := .code yX11_beginsSeason cX11_beginsSeason 3 none :: ALL
abbrev r9_X11_beginsSeason : Room := { frames := 7, cells := 0, slots := 0, locals := 159 }
theorem cf_X11_beginsSeason : (.instanceMethod yX11_beginsSeason : Cond) ∈ ALL ∧ (.selects RX11 yX11_beginsSeason yX11_beginsSeason : Cond) ∈ ALL ∧ (.code yX11_beginsSeason cX11_beginsSeason 3 none : Cond) ∈ ALL ∧ (.initialized RX11 : Cond) ∈ ALL := ⟨wd_1705, wq_69, wd_1706, wd_18⟩
noncomputable abbrev w9_X11_earns : List Cond := .code yX11_earns cX11_earns 5 none :: ALL
abbrev r9_X11_earns : Room := { frames := 1, cells := 0, slots := 0, locals := 23 }
theorem cf_X11_earns : (.instanceMethod yX11_earns : Cond) ∈ ALL ∧ (.selects RX11 yX11_earns yX11_earns : Cond) ∈ ALL ∧ (.code yX11_earns cX11_earns 5 none : Cond) ∈ ALL ∧ (.initialized RX11 : Cond) ∈ ALL := ⟨wd_1792, wq_90, wd_1793, wd_18⟩
noncomputable abbrev w9_X11_pays : List Cond := .code yX11_pays cX11_pays 4 none :: ALL
abbrev r9_X11_pays : Room := { frames := 1, cells := 0, slots := 0, locals := 23 }
theorem cf_X11_pays : (.instanceMethod yX11_pays : Cond) ∈ ALL ∧ (.selects RX11 yX11_pays yX11_pays : Cond) ∈ ALL ∧ (.code yX11_pays cX11_pays 4 none : Cond) ∈ ALL ∧ (.initialized RX11 : Cond) ∈ ALL := ⟨wd_1796, wq_91, wd_1797, wd_18⟩
noncomputable abbrev w9_X11_mayDesert : List Cond := .code yX11_mayDesert cX11_mayDesert 3 none :: ALL
abbrev r9_X11_mayDesert : Room := { frames := 3, cells := 0, slots := 0, locals := 68 }
theorem cf_X11_mayDesert : (.instanceMethod yX11_mayDesert : Cond) ∈ ALL ∧ (.selects RX11 yX11_mayDesert yX11_mayDesert : Cond) ∈ ALL ∧ (.code yX11_mayDesert cX11_mayDesert 3 none : Cond) ∈ ALL ∧ (.initialized RX11 : Cond) ∈ ALL := ⟨wd_1800, wq_92, wd_1801, wd_18⟩
noncomputable abbrev w9_X11_dayOnce : List Cond := .code yX11_dayOnce cX11_dayOnce 3 none :: ALL
abbrev r9_X11_dayOnce : Room := { frames := 8, cells := 0, slots := 0, locals := 181 }
theorem cf_X11_dayOnce : (.instanceMethod yX11_dayOnce : Cond) ∈ ALL ∧ (.selects RX11 yX11_dayOnce yX11_dayOnce : Cond) ∈ ALL ∧ (.code yX11_dayOnce cX11_dayOnce 3 none : Cond) ∈ ALL ∧ (.initialized RX11 : Cond) ∈ ALL := ⟨wd_1701, wq_68, wd_1702, wd_18⟩
noncomputable abbrev w9_X11_goBy : List Cond := .code yX11_goBy cX11_goBy 3 none :: ALL
abbrev r9_X11_goBy : Room := { frames := 9, cells := 0, slots := 0, locals := 203 }
theorem cf_X11_goBy : (.instanceMethod yX11_goBy : Cond) ∈ ALL ∧ (.selects RX11 yX11_goBy yX11_goBy : Cond) ∈ ALL ∧ (.code yX11_goBy cX11_goBy 3 none : Cond) ∈ ALL ∧ (.initialized RX11 : Cond) ∈ ALL := ⟨wd_1697, wq_67, wd_1698, wd_18⟩
noncomputable abbrev w9_X11_allLeft : List Cond := .code yX11_allLeft cX11_allLeft 3 (some .int) :: ALL
abbrev r9_X11_allLeft : Room := { frames := 1, cells := 0, slots := 0, locals := 22 }
theorem cf_X11_allLeft : (.instanceMethod yX11_allLeft : Cond) ∈ ALL ∧ (.selects RX11 yX11_allLeft yX11_allLeft : Cond) ∈ ALL ∧ (.code yX11_allLeft cX11_allLeft 3 (some .int) : Cond) ∈ ALL ∧ (.initialized RX11 : Cond) ∈ ALL := ⟨wd_1689, wq_65, wd_1690, wd_18⟩
noncomputable abbrev w9_X11_passNow : List Cond := .code yX11_passNow cX11_passNow 3 (some .boolean) :: ALL
abbrev r9_X11_passNow : Room := { frames := 10, cells := 0, slots := 0, locals := 225 }
theorem cf_X11_passNow : (.instanceMethod yX11_passNow : Cond) ∈ ALL ∧ (.selects RX11 yX11_passNow yX11_passNow : Cond) ∈ ALL ∧ (.code yX11_passNow cX11_passNow 3 (some .boolean) : Cond) ∈ ALL ∧ (.initialized RX11 : Cond) ∈ ALL := ⟨wd_1685, wq_64, wd_1686, wd_18⟩
noncomputable abbrev w9_X11_holdNow : List Cond := .code yX11_holdNow cX11_holdNow 2 (some .boolean) :: ALL
abbrev r9_X11_holdNow : Room := { frames := 7, cells := 0, slots := 0, locals := 159 }
theorem cf_X11_holdNow : (.instanceMethod yX11_holdNow : Cond) ∈ ALL ∧ (.selects RX11 yX11_holdNow yX11_holdNow : Cond) ∈ ALL ∧ (.code yX11_holdNow cX11_holdNow 2 (some .boolean) : Cond) ∈ ALL ∧ (.initialized RX11 : Cond) ∈ ALL := ⟨wd_1808, wq_94, wd_1809, wd_18⟩
noncomputable abbrev w9_X11_canTest : List Cond := .code yX11_canTest cX11_canTest 3 (some .boolean) :: ALL
abbrev r9_X11_canTest : Room := { frames := 2, cells := 0, slots := 0, locals := 43 }
theorem cf_X11_canTest : (.instanceMethod yX11_canTest : Cond) ∈ ALL ∧ (.selects RX11 yX11_canTest yX11_canTest : Cond) ∈ ALL ∧ (.code yX11_canTest cX11_canTest 3 (some .boolean) : Cond) ∈ ALL ∧ (.initialized RX11 : Cond) ∈ ALL := ⟨wd_1816, wq_96, wd_1817, wd_18⟩
noncomputable abbrev w9_X11_testNow : List Cond := .code yX11_testNow cX11_testNow 3 (some .boolean) :: ALL
abbrev r9_X11_testNow : Room := { frames := 3, cells := 0, slots := 0, locals := 65 }
theorem cf_X11_testNow : (.instanceMethod yX11_testNow : Cond) ∈ ALL ∧ (.selects RX11 yX11_testNow yX11_testNow : Cond) ∈ ALL ∧ (.code yX11_testNow cX11_testNow 3 (some .boolean) : Cond) ∈ ALL ∧ (.initialized RX11 : Cond) ∈ ALL := ⟨wd_1812, wq_95, wd_1813, wd_18⟩
noncomputable abbrev w9_X11_dismissNow : List Cond := .code yX11_dismissNow cX11_dismissNow 2 (some .boolean) :: ALL
abbrev r9_X11_dismissNow : Room := { frames := 3, cells := 0, slots := 0, locals := 68 }
theorem cf_X11_dismissNow : (.instanceMethod yX11_dismissNow : Cond) ∈ ALL ∧ (.selects RX11 yX11_dismissNow yX11_dismissNow : Cond) ∈ ALL ∧ (.code yX11_dismissNow cX11_dismissNow 2 (some .boolean) : Cond) ∈ ALL ∧ (.initialized RX11 : Cond) ∈ ALL := ⟨wd_1820, wq_97, wd_1821, wd_18⟩
noncomputable abbrev w9_X11_wageNow : List Cond := .code yX11_wageNow cX11_wageNow 3 (some .boolean) :: ALL
abbrev r9_X11_wageNow : Room := { frames := 1, cells := 0, slots := 0, locals := 23 }
theorem cf_X11_wageNow : (.instanceMethod yX11_wageNow : Cond) ∈ ALL ∧ (.selects RX11 yX11_wageNow yX11_wageNow : Cond) ∈ ALL ∧ (.code yX11_wageNow cX11_wageNow 3 (some .boolean) : Cond) ∈ ALL ∧ (.initialized RX11 : Cond) ∈ ALL := ⟨wd_1824, wq_98, wd_1825, wd_18⟩
noncomputable abbrev w9_X11_fundNow : List Cond := .code yX11_fundNow cX11_fundNow 3 (some .boolean) :: ALL
abbrev r9_X11_fundNow : Room := { frames := 1, cells := 0, slots := 0, locals := 23 }
theorem cf_X11_fundNow : (.instanceMethod yX11_fundNow : Cond) ∈ ALL ∧ (.selects RX11 yX11_fundNow yX11_fundNow : Cond) ∈ ALL ∧ (.code yX11_fundNow cX11_fundNow 3 (some .boolean) : Cond) ∈ ALL ∧ (.initialized RX11 : Cond) ∈ ALL := ⟨wd_1828, wq_99, wd_1829, wd_18⟩
noncomputable abbrev w9_X11_canTrain : List Cond := .code yX11_canTrain cX11_canTrain 2 (some .boolean) :: ALL
abbrev r9_X11_canTrain : Room := { frames := 1, cells := 0, slots := 0, locals := 22 }
theorem cf_X11_canTrain : (.instanceMethod yX11_canTrain : Cond) ∈ ALL ∧ (.selects RX11 yX11_canTrain yX11_canTrain : Cond) ∈ ALL ∧ (.code yX11_canTrain cX11_canTrain 2 (some .boolean) : Cond) ∈ ALL ∧ (.initialized RX11 : Cond) ∈ ALL := ⟨wd_1836, wq_101, wd_1837, wd_18⟩
noncomputable abbrev w9_X11_trainNow : List Cond := .code yX11_trainNow cX11_trainNow 3 (some .boolean) :: ALL
abbrev r9_X11_trainNow : Room := { frames := 2, cells := 0, slots := 0, locals := 43 }
theorem cf_X11_trainNow : (.instanceMethod yX11_trainNow : Cond) ∈ ALL ∧ (.selects RX11 yX11_trainNow yX11_trainNow : Cond) ∈ ALL ∧ (.code yX11_trainNow cX11_trainNow 3 (some .boolean) : Cond) ∈ ALL ∧ (.initialized RX11 : Cond) ∈ ALL := ⟨wd_1832, wq_100, wd_1833, wd_18⟩
noncomputable abbrev w9_X11_four : List Cond := .code yX11_four cX11_four 3 none :: ALL
abbrev r9_X11_four : Room := { frames := 0, cells := 0, slots := 0, locals := 0 }
theorem cf_X11_four : (.instanceMethod yX11_four : Cond) ∈ ALL ∧ (.selects RX11 yX11_four yX11_four : Cond) ∈ ALL ∧ (.code yX11_four cX11_four 3 none : Cond) ∈ ALL ∧ (.initialized RX11 : Cond) ∈ ALL := ⟨wd_1634, wq_57, wd_1635, wd_18⟩
noncomputable abbrev w9_X11_append : List Cond := .code yX11_append cX11_append 6 (some .int) :: ALL
abbrev r9_X11_append : Room := { frames := 1, cells := 0, slots := 0, locals := 22 }
theorem cf_X11_append : (.instanceMethod yX11_append : Cond) ∈ ALL ∧ (.selects RX11 yX11_append yX11_append : Cond) ∈ ALL ∧ (.code yX11_append cX11_append 6 (some .int) : Cond) ∈ ALL ∧ (.initialized RX11 : Cond) ∈ ALL := ⟨wd_1629, wd_1630, wd_1631, wd_18⟩
noncomputable abbrev w9_X11_truncate : List Cond := .code yX11_truncate cX11_truncate 2 (some .int) :: ALL
abbrev r9_X11_truncate : Room := { frames := 1, cells := 0, slots := 0, locals := 25 }
theorem cf_X11_truncate : (.instanceMethod yX11_truncate : Cond) ∈ ALL ∧ (.selects RX11 yX11_truncate yX11_truncate : Cond) ∈ ALL ∧ (.code yX11_truncate cX11_truncate 2 (some .int) : Cond) ∈ ALL ∧ (.initialized RX11 : Cond) ∈ ALL := ⟨wd_1637, wd_1638, wd_1639, wd_18⟩
noncomputable abbrev w9_X11_byteAt : List Cond := .code yX11_byteAt cX11_byteAt 2 (some .int) :: ALL
abbrev r9_X11_byteAt : Room := { frames := 0, cells := 0, slots := 0, locals := 0 }
theorem cf_X11_byteAt : (.instanceMethod yX11_byteAt : Cond) ∈ ALL ∧ (.selects RX11 yX11_byteAt yX11_byteAt : Cond) ∈ ALL ∧ (.code yX11_byteAt cX11_byteAt 2 (some .int) : Cond) ∈ ALL ∧ (.initialized RX11 : Cond) ∈ ALL := ⟨wd_1446, wq_37, wd_1447, wd_18⟩
noncomputable abbrev w9_X11_next : List Cond := .code yX11_next cX11_next 1 (some .int) :: ALL
abbrev r9_X11_next : Room := { frames := 1, cells := 0, slots := 0, locals := 25 }
theorem cf_X11_next : (.instanceMethod yX11_next : Cond) ∈ ALL ∧ (.selects RX11 yX11_next yX11_next : Cond) ∈ ALL ∧ (.code yX11_next cX11_next 1 (some .int) : Cond) ∈ ALL ∧ (.initialized RX11 : Cond) ∈ ALL := ⟨wd_1442, wq_36, wd_1443, wd_18⟩
noncomputable abbrev w9_X11_must : List Cond := .code yX11_must cX11_must 3 none :: ALL
abbrev r9_X11_must : Room := { frames := 0, cells := 0, slots := 0, locals := 0 }
theorem cf_X11_must : (.instanceMethod yX11_must : Cond) ∈ ALL ∧ (.selects RX11 yX11_must yX11_must : Cond) ∈ ALL ∧ (.code yX11_must cX11_must 3 none : Cond) ∈ ALL ∧ (.initialized RX11 : Cond) ∈ ALL := ⟨wd_1455, wq_38, wd_1456, wd_18⟩
noncomputable abbrev w9_X11_sees : List Cond := .code yX11_sees cX11_sees 4 (some .boolean) :: ALL
abbrev r9_X11_sees : Room := { frames := 4, cells := 0, slots := 0, locals := 85 }
theorem cf_X11_sees : (.instanceMethod yX11_sees : Cond) ∈ ALL ∧ (.selects RX11 yX11_sees yX11_sees : Cond) ∈ ALL ∧ (.code yX11_sees cX11_sees 4 (some .boolean) : Cond) ∈ ALL ∧ (.initialized RX11 : Cond) ∈ ALL := ⟨wd_1438, wq_35, wd_1439, wd_18⟩
noncomputable abbrev w9_X11_goesPast : List Cond := .code yX11_goesPast cX11_goesPast 1 none :: ALL
abbrev r9_X11_goesPast : Room := { frames := 0, cells := 0, slots := 0, locals := 0 }
theorem cf_X11_goesPast : (.instanceMethod yX11_goesPast : Cond) ∈ ALL ∧ (.selects RX11 yX11_goesPast yX11_goesPast : Cond) ∈ ALL ∧ (.code yX11_goesPast cX11_goesPast 1 none : Cond) ∈ ALL ∧ (.initialized RX11 : Cond) ∈ ALL := ⟨wd_1459, wq_39, wd_1460, wd_18⟩
noncomputable abbrev w9_X11_keyword : List Cond := .code yX11_keyword cX11_keyword 2 none :: ALL
abbrev r9_X11_keyword : Room := { frames := 5, cells := 0, slots := 0, locals := 108 }
theorem cf_X11_keyword : (.instanceMethod yX11_keyword : Cond) ∈ ALL ∧ (.selects RX11 yX11_keyword yX11_keyword : Cond) ∈ ALL ∧ (.code yX11_keyword cX11_keyword 2 none : Cond) ∈ ALL ∧ (.initialized RX11 : Cond) ∈ ALL := ⟨wd_1434, wq_34, wd_1435, wd_18⟩
noncomputable abbrev w9_X11_semicolon : List Cond := .code yX11_semicolon cX11_semicolon 1 none :: ALL
abbrev r9_X11_semicolon : Room := { frames := 2, cells := 0, slots := 0, locals := 45 }
theorem cf_X11_semicolon : (.instanceMethod yX11_semicolon : Cond) ∈ ALL ∧ (.selects RX11 yX11_semicolon yX11_semicolon : Cond) ∈ ALL ∧ (.code yX11_semicolon cX11_semicolon 1 none : Cond) ∈ ALL ∧ (.initialized RX11 : Cond) ∈ ALL := ⟨wd_1469, wq_41, wd_1470, wd_18⟩
noncomputable abbrev w9_X11_number : List Cond := .code yX11_number cX11_number 4 (some .int) :: ALL
abbrev r9_X11_number : Room := { frames := 2, cells := 0, slots := 0, locals := 45 }
theorem cf_X11_number : (.instanceMethod yX11_number : Cond) ∈ ALL ∧ (.selects RX11 yX11_number yX11_number : Cond) ∈ ALL ∧ (.code yX11_number cX11_number 4 (some .int) : Cond) ∈ ALL ∧ (.initialized RX11 : Cond) ∈ ALL := ⟨wd_1463, wq_40, wd_1464, wd_18⟩
noncomputable abbrev w9_X11_isNumberNext : List Cond := .code yX11_isNumberNext cX11_isNumberNext 1 (some .boolean) :: ALL
abbrev r9_X11_isNumberNext : Room := { frames := 2, cells := 0, slots := 0, locals := 45 }
theorem cf_X11_isNumberNext : (.instanceMethod yX11_isNumberNext : Cond) ∈ ALL ∧ (.selects RX11 yX11_isNumberNext yX11_isNumberNext : Cond) ∈ ALL ∧ (.code yX11_isNumberNext cX11_isNumberNext 1 (some .boolean) : Cond) ∈ ALL ∧ (.initialized RX11 : Cond) ∈ ALL := ⟨wd_1478, wq_43, wd_1479, wd_18⟩
noncomputable abbrev w9_X11_isName : List Cond := .code yX11_isName cX11_isName 2 (some .boolean) :: ALL
abbrev r9_X11_isName : Room := { frames := 2, cells := 0, slots := 0, locals := 45 }
theorem cf_X11_isName : (.instanceMethod yX11_isName : Cond) ∈ ALL ∧ (.selects RX11 yX11_isName yX11_isName : Cond) ∈ ALL ∧ (.code yX11_isName cX11_isName 2 (some .boolean) : Cond) ∈ ALL ∧ (.initialized RX11 : Cond) ∈ ALL := ⟨wd_1498, wq_47, wd_1499, wd_18⟩
noncomputable abbrev w9_X11_isNamed : List Cond := .code yX11_isNamed cX11_isNamed 3 (some .boolean) :: ALL
abbrev r9_X11_isNamed : Room := { frames := 1, cells := 0, slots := 0, locals := 21 }
theorem cf_X11_isNamed : (.instanceMethod yX11_isNamed : Cond) ∈ ALL ∧ (.selects RX11 yX11_isNamed yX11_isNamed : Cond) ∈ ALL ∧ (.code yX11_isNamed cX11_isNamed 3 (some .boolean) : Cond) ∈ ALL ∧ (.initialized RX11 : Cond) ∈ ALL := ⟨wd_1507, wq_49, wd_1508, wd_18⟩
noncomputable abbrev w9_X11_placeOf : List Cond := .code yX11_placeOf cX11_placeOf 2 (some .int) :: ALL
abbrev r9_X11_placeOf : Room := { frames := 0, cells := 0, slots := 0, locals := 0 }
theorem cf_X11_placeOf : (.static yX11_placeOf : Cond) ∈ ALL ∧ (.initialized RX11 : Cond) ∈ ALL ∧ (.code yX11_placeOf cX11_placeOf 2 (some .int) : Cond) ∈ ALL ∧ (.initialized RX11 : Cond) ∈ ALL := ⟨wd_1490, wd_18, wd_1491, wd_18⟩
noncomputable abbrev w9_X11_thingHere : List Cond := .code yX11_thingHere cX11_thingHere 3 (some .int) :: ALL
abbrev r9_X11_thingHere : Room := { frames := 2, cells := 0, slots := 0, locals := 43 }
theorem cf_X11_thingHere : (.instanceMethod yX11_thingHere : Cond) ∈ ALL ∧ (.selects RX11 yX11_thingHere yX11_thingHere : Cond) ∈ ALL ∧ (.code yX11_thingHere cX11_thingHere 3 (some .int) : Cond) ∈ ALL ∧ (.initialized RX11 : Cond) ∈ ALL := ⟨wd_1503, wq_48, wd_1504, wd_18⟩
noncomputable abbrev w9_X11_mustBe : List Cond := .code yX11_mustBe cX11_mustBe 3 (some .int) :: ALL
abbrev r9_X11_mustBe : Room := { frames := 3, cells := 0, slots := 0, locals := 66 }
theorem cf_X11_mustBe : (.instanceMethod yX11_mustBe : Cond) ∈ ALL ∧ (.selects RX11 yX11_mustBe yX11_mustBe : Cond) ∈ ALL ∧ (.code yX11_mustBe cX11_mustBe 3 (some .int) : Cond) ∈ ALL ∧ (.initialized RX11 : Cond) ∈ ALL := ⟨wd_1529, wq_54, wd_1530, wd_18⟩
noncomputable abbrev w9_X11_newName : List Cond := .code yX11_newName cX11_newName 4 none :: ALL
abbrev r9_X11_newName : Room := { frames := 3, cells := 0, slots := 0, locals := 66 }
theorem cf_X11_newName : (.instanceMethod yX11_newName : Cond) ∈ ALL ∧ (.selects RX11 yX11_newName yX11_newName : Cond) ∈ ALL ∧ (.code yX11_newName cX11_newName 4 none : Cond) ∈ ALL ∧ (.initialized RX11 : Cond) ∈ ALL := ⟨wd_1494, wq_46, wd_1495, wd_18⟩
noncomputable abbrev w9_X11_startsText : List Cond := .code yX11_startsText cX11_startsText 1 none :: ALL
abbrev r9_X11_startsText : Room := { frames := 0, cells := 0, slots := 0, locals := 0 }
theorem cf_X11_startsText : (.instanceMethod yX11_startsText : Cond) ∈ ALL ∧ (.selects RX11 yX11_startsText yX11_startsText : Cond) ∈ ALL ∧ (.code yX11_startsText cX11_startsText 1 none : Cond) ∈ ALL ∧ (.initialized RX11 : Cond) ∈ ALL := ⟨wd_1429, wq_33, wd_1430, wd_18⟩
noncomputable abbrev w9_X11_endsText : List Cond := .code yX11_endsText cX11_endsText 1 (some .boolean) :: ALL
abbrev r9_X11_endsText : Room := { frames := 0, cells := 0, slots := 0, locals := 0 }
theorem cf_X11_endsText : (.instanceMethod yX11_endsText : Cond) ∈ ALL ∧ (.selects RX11 yX11_endsText yX11_endsText : Cond) ∈ ALL ∧ (.code yX11_endsText cX11_endsText 1 (some .boolean) : Cond) ∈ ALL ∧ (.initialized RX11 : Cond) ∈ ALL := ⟨wd_1536, wq_55, wd_1537, wd_18⟩
noncomputable abbrev w9_X11_errorCode : List Cond := .code yX11_errorCode cX11_errorCode 1 (some .int) :: ALL
abbrev r9_X11_errorCode : Room := { frames := 0, cells := 0, slots := 0, locals := 0 }
theorem cf_X11_errorCode : (.instanceMethod yX11_errorCode : Cond) ∈ ALL ∧ (.selects RX11 yX11_errorCode yX11_errorCode : Cond) ∈ ALL ∧ (.code yX11_errorCode cX11_errorCode 1 (some .int) : Cond) ∈ ALL ∧ (.initialized RX11 : Cond) ∈ ALL := ⟨wd_1641, wd_1642, wd_1643, wd_18⟩
noncomputable abbrev w9_X11_errorPosition : List Cond := .code yX11_errorPosition cX11_errorPosition 1 (some .int) :: ALL
abbrev r9_X11_errorPosition : Room := { frames := 0, cells := 0, slots := 0, locals := 0 }
theorem cf_X11_errorPosition : (.instanceMethod yX11_errorPosition : Cond) ∈ ALL ∧ (.selects RX11 yX11_errorPosition yX11_errorPosition : Cond) ∈ ALL ∧ (.code yX11_errorPosition cX11_errorPosition 1 (some .int) : Cond) ∈ ALL ∧ (.initialized RX11 : Cond) ∈ ALL := ⟨wd_1645, wd_1646, wd_1647, wd_18⟩
noncomputable abbrev w9_X11_fogLine : List Cond := .code yX11_fogLine cX11_fogLine 2 none :: ALL
abbrev r9_X11_fogLine : Room := { frames := 6, cells := 0, slots := 0, locals := 129 }
theorem cf_X11_fogLine : (.instanceMethod yX11_fogLine : Cond) ∈ ALL ∧ (.selects RX11 yX11_fogLine yX11_fogLine : Cond) ∈ ALL ∧ (.code yX11_fogLine cX11_fogLine 2 none : Cond) ∈ ALL ∧ (.initialized RX11 : Cond) ∈ ALL := ⟨wd_1473, wq_42, wd_1474, wd_18⟩
noncomputable abbrev w9_X11_echoLine : List Cond := .code yX11_echoLine cX11_echoLine 6 none :: ALL
abbrev r9_X11_echoLine : Room := { frames := 4, cells := 0, slots := 0, locals := 89 }
theorem cf_X11_echoLine : (.instanceMethod yX11_echoLine : Cond) ∈ ALL ∧ (.selects RX11 yX11_echoLine yX11_echoLine : Cond) ∈ ALL ∧ (.code yX11_echoLine cX11_echoLine 6 none : Cond) ∈ ALL ∧ (.initialized RX11 : Cond) ∈ ALL := ⟨wd_1487, wq_45, wd_1488, wd_18⟩
noncomputable abbrev w9_X11_valleyLine : List Cond := .code yX11_valleyLine cX11_valleyLine 6 none :: ALL
abbrev r9_X11_valleyLine : Room := { frames := 4, cells := 0, slots := 0, locals := 89 }
theorem cf_X11_valleyLine : (.instanceMethod yX11_valleyLine : Cond) ∈ ALL ∧ (.selects RX11 yX11_valleyLine yX11_valleyLine : Cond) ∈ ALL ∧ (.code yX11_valleyLine cX11_valleyLine 6 none : Cond) ∈ ALL ∧ (.initialized RX11 : Cond) ∈ ALL := ⟨wd_1516, wq_51, wd_1517, wd_18⟩
noncomputable abbrev w9_X11_testedLine : List Cond := .code yX11_testedLine cX11_testedLine 3 none :: ALL
abbrev r9_X11_testedLine : Room := { frames := 4, cells := 0, slots := 0, locals := 88 }
theorem cf_X11_testedLine : (.instanceMethod yX11_testedLine : Cond) ∈ ALL ∧ (.selects RX11 yX11_testedLine yX11_testedLine : Cond) ∈ ALL ∧ (.code yX11_testedLine cX11_testedLine 3 none : Cond) ∈ ALL ∧ (.initialized RX11 : Cond) ∈ ALL := ⟨wd_1525, wq_53, wd_1526, wd_18⟩
noncomputable abbrev w9_X11_statement : List Cond := .code yX11_statement cX11_statement 2 none :: ALL
abbrev r9_X11_statement : Room := { frames := 5, cells := 0, slots := 0, locals := 114 }
theorem cf_X11_statement : (.instanceMethod yX11_statement : Cond) ∈ ALL ∧ (.selects RX11 yX11_statement yX11_statement : Cond) ∈ ALL ∧ (.code yX11_statement cX11_statement 2 none : Cond) ∈ ALL ∧ (.initialized RX11 : Cond) ∈ ALL := ⟨wd_1482, wq_44, wd_1483, wd_18⟩
noncomputable abbrev w9_X11_load : List Cond := .code yX11_load cX11_load 2 (some .int) :: ALL
abbrev r9_X11_load : Room := { frames := 7, cells := 0, slots := 0, locals := 150 }
theorem cf_X11_load : (.instanceMethod yX11_load : Cond) ∈ ALL ∧ (.selects RX11 yX11_load yX11_load : Cond) ∈ ALL ∧ (.code yX11_load cX11_load 2 (some .int) : Cond) ∈ ALL ∧ (.initialized RX11 : Cond) ∈ ALL := ⟨wd_1421, wd_1422, wd_1423, wd_18⟩
noncomputable abbrev w9_X11_otherCommand : List Cond := .code yX11_otherCommand cX11_otherCommand 1 (some .int) :: ALL
abbrev r9_X11_otherCommand : Room := { frames := 5, cells := 0, slots := 0, locals := 108 }
theorem cf_X11_otherCommand : (.instanceMethod yX11_otherCommand : Cond) ∈ ALL ∧ (.selects RX11 yX11_otherCommand yX11_otherCommand : Cond) ∈ ALL ∧ (.code yX11_otherCommand cX11_otherCommand 1 (some .int) : Cond) ∈ ALL ∧ (.initialized RX11 : Cond) ∈ ALL := ⟨wd_1665, wq_60, wd_1666, wd_18⟩
noncomputable abbrev w9_X11_commandHere : List Cond := .code yX11_commandHere cX11_commandHere 1 (some .int) :: ALL
abbrev r9_X11_commandHere : Room := { frames := 6, cells := 0, slots := 0, locals := 128 }
theorem cf_X11_commandHere : (.instanceMethod yX11_commandHere : Cond) ∈ ALL ∧ (.selects RX11 yX11_commandHere yX11_commandHere : Cond) ∈ ALL ∧ (.code yX11_commandHere cX11_commandHere 1 (some .int) : Cond) ∈ ALL ∧ (.initialized RX11 : Cond) ∈ ALL := ⟨wd_1659, wq_59, wd_1660, wd_18⟩
noncomputable abbrev w9_X11_partsOf : List Cond := .code yX11_partsOf cX11_partsOf 3 none :: ALL
abbrev r9_X11_partsOf : Room := { frames := 4, cells := 0, slots := 0, locals := 88 }
theorem cf_X11_partsOf : (.instanceMethod yX11_partsOf : Cond) ∈ ALL ∧ (.selects RX11 yX11_partsOf yX11_partsOf : Cond) ∈ ALL ∧ (.code yX11_partsOf cX11_partsOf 3 none : Cond) ∈ ALL ∧ (.initialized RX11 : Cond) ∈ ALL := ⟨wd_1673, wq_61, wd_1674, wd_18⟩
noncomputable abbrev w9_X11_readsOne : List Cond := .code yX11_readsOne cX11_readsOne 2 none :: ALL
abbrev r9_X11_readsOne : Room := { frames := 7, cells := 0, slots := 0, locals := 148 }
theorem cf_X11_readsOne : (.instanceMethod yX11_readsOne : Cond) ∈ ALL ∧ (.selects RX11 yX11_readsOne yX11_readsOne : Cond) ∈ ALL ∧ (.code yX11_readsOne cX11_readsOne 2 none : Cond) ∈ ALL ∧ (.initialized RX11 : Cond) ∈ ALL := ⟨wd_1655, wq_58, wd_1656, wd_18⟩
noncomputable abbrev w9_X11_doesOne : List Cond := .code yX11_doesOne cX11_doesOne 4 (some .boolean) :: ALL
abbrev r9_X11_doesOne : Room := { frames := 11, cells := 0, slots := 0, locals := 247 }
theorem cf_X11_doesOne : (.instanceMethod yX11_doesOne : Cond) ∈ ALL ∧ (.selects RX11 yX11_doesOne yX11_doesOne : Cond) ∈ ALL ∧ (.code yX11_doesOne cX11_doesOne 4 (some .boolean) : Cond) ∈ ALL ∧ (.initialized RX11 : Cond) ∈ ALL := ⟨wd_1681, wq_63, wd_1682, wd_18⟩
noncomputable abbrev w9_X11_keeps : List Cond := .code yX11_keeps cX11_keeps 3 none :: ALL
abbrev r9_X11_keeps : Room := { frames := 1, cells := 0, slots := 0, locals := 24 }
theorem cf_X11_keeps : (.instanceMethod yX11_keeps : Cond) ∈ ALL ∧ (.selects RX11 yX11_keeps yX11_keeps : Cond) ∈ ALL ∧ (.code yX11_keeps cX11_keeps 3 none : Cond) ∈ ALL ∧ (.initialized RX11 : Cond) ∈ ALL := ⟨wd_1677, wq_62, wd_1678, wd_18⟩
noncomputable abbrev w9_X11_executeCommands : List Cond := .code yX11_executeCommands cX11_executeCommands 2 (some .int) :: ALL
abbrev r9_X11_executeCommands : Room := { frames := 12, cells := 0, slots := 0, locals := 270 }
theorem cf_X11_executeCommands : (.instanceMethod yX11_executeCommands : Cond) ∈ ALL ∧ (.selects RX11 yX11_executeCommands yX11_executeCommands : Cond) ∈ ALL ∧ (.code yX11_executeCommands cX11_executeCommands 2 (some .int) : Cond) ∈ ALL ∧ (.initialized RX11 : Cond) ∈ ALL := ⟨wd_1650, wd_1651, wd_1652, wd_18⟩
noncomputable abbrev w9_X11_tells : List Cond := .code yX11_tells cX11_tells 2 (some .int) :: ALL
abbrev r9_X11_tells : Room := { frames := 0, cells := 0, slots := 0, locals := 0 }
theorem cf_X11_tells : (.instanceMethod yX11_tells : Cond) ∈ ALL ∧ (.selects RX11 yX11_tells yX11_tells : Cond) ∈ ALL ∧ (.code yX11_tells cX11_tells 2 (some .int) : Cond) ∈ ALL ∧ (.initialized RX11 : Cond) ∈ ALL := ⟨wd_1844, wq_102, wd_1845, wd_18⟩
noncomputable abbrev w9_X11_tellsEcho : List Cond := .code yX11_tellsEcho cX11_tellsEcho 3 (some .int) :: ALL
abbrev r9_X11_tellsEcho : Room := { frames := 2, cells := 0, slots := 0, locals := 46 }
theorem cf_X11_tellsEcho : (.instanceMethod yX11_tellsEcho : Cond) ∈ ALL ∧ (.selects RX11 yX11_tellsEcho yX11_tellsEcho : Cond) ∈ ALL ∧ (.code yX11_tellsEcho cX11_tellsEcho 3 (some .int) : Cond) ∈ ALL ∧ (.initialized RX11 : Cond) ∈ ALL := ⟨wd_1881, wq_104, wd_1882, wd_18⟩
noncomputable abbrev w9_X11_tellsValley : List Cond := .code yX11_tellsValley cX11_tellsValley 3 (some .int) :: ALL
abbrev r9_X11_tellsValley : Room := { frames := 2, cells := 0, slots := 0, locals := 46 }
theorem cf_X11_tellsValley : (.instanceMethod yX11_tellsValley : Cond) ∈ ALL ∧ (.selects RX11 yX11_tellsValley yX11_tellsValley : Cond) ∈ ALL ∧ (.code yX11_tellsValley cX11_tellsValley 3 (some .int) : Cond) ∈ ALL ∧ (.initialized RX11 : Cond) ∈ ALL := ⟨wd_1917, wq_106, wd_1918, wd_18⟩
noncomputable abbrev w9_X11_echoCount : List Cond := .code yX11_echoCount cX11_echoCount 1 (some .int) :: ALL
abbrev r9_X11_echoCount : Room := { frames := 1, cells := 0, slots := 0, locals := 21 }
theorem cf_X11_echoCount : (.instanceMethod yX11_echoCount : Cond) ∈ ALL ∧ (.selects RX11 yX11_echoCount yX11_echoCount : Cond) ∈ ALL ∧ (.code yX11_echoCount cX11_echoCount 1 (some .int) : Cond) ∈ ALL ∧ (.initialized RX11 : Cond) ∈ ALL := ⟨wd_1839, wd_1840, wd_1841, wd_18⟩
noncomputable abbrev w9_X11_valleyCount : List Cond := .code yX11_valleyCount cX11_valleyCount 1 (some .int) :: ALL
abbrev r9_X11_valleyCount : Room := { frames := 1, cells := 0, slots := 0, locals := 21 }
theorem cf_X11_valleyCount : (.instanceMethod yX11_valleyCount : Cond) ∈ ALL ∧ (.selects RX11 yX11_valleyCount yX11_valleyCount : Cond) ∈ ALL ∧ (.code yX11_valleyCount cX11_valleyCount 1 (some .int) : Cond) ∈ ALL ∧ (.initialized RX11 : Cond) ∈ ALL := ⟨wd_1847, wd_1848, wd_1849, wd_18⟩
noncomputable abbrev w9_X11_day : List Cond := .code yX11_day cX11_day 1 (some .int) :: ALL
abbrev r9_X11_day : Room := { frames := 1, cells := 0, slots := 0, locals := 21 }
theorem cf_X11_day : (.instanceMethod yX11_day : Cond) ∈ ALL ∧ (.selects RX11 yX11_day yX11_day : Cond) ∈ ALL ∧ (.code yX11_day cX11_day 1 (some .int) : Cond) ∈ ALL ∧ (.initialized RX11 : Cond) ∈ ALL := ⟨wd_1851, wd_1852, wd_1853, wd_18⟩
noncomputable abbrev w9_X11_seasonLength : List Cond := .code yX11_seasonLength cX11_seasonLength 1 (some .int) :: ALL
abbrev r9_X11_seasonLength : Room := { frames := 1, cells := 0, slots := 0, locals := 21 }
theorem cf_X11_seasonLength : (.instanceMethod yX11_seasonLength : Cond) ∈ ALL ∧ (.selects RX11 yX11_seasonLength yX11_seasonLength : Cond) ∈ ALL ∧ (.code yX11_seasonLength cX11_seasonLength 1 (some .int) : Cond) ∈ ALL ∧ (.initialized RX11 : Cond) ∈ ALL := ⟨wd_1855, wd_1856, wd_1857, wd_18⟩
noncomputable abbrev w9_X11_fogOf : List Cond := .code yX11_fogOf cX11_fogOf 2 (some .int) :: ALL
abbrev r9_X11_fogOf : Room := { frames := 1, cells := 0, slots := 0, locals := 25 }
theorem cf_X11_fogOf : (.instanceMethod yX11_fogOf : Cond) ∈ ALL ∧ (.selects RX11 yX11_fogOf yX11_fogOf : Cond) ∈ ALL ∧ (.code yX11_fogOf cX11_fogOf 2 (some .int) : Cond) ∈ ALL ∧ (.initialized RX11 : Cond) ∈ ALL := ⟨wd_1859, wd_1860, wd_1861, wd_18⟩
noncomputable abbrev w9_X11_finds : List Cond := .code yX11_finds cX11_finds 3 (some .int) :: ALL
abbrev r9_X11_finds : Room := { frames := 3, cells := 0, slots := 0, locals := 65 }
theorem cf_X11_finds : (.instanceMethod yX11_finds : Cond) ∈ ALL ∧ (.selects RX11 yX11_finds yX11_finds : Cond) ∈ ALL ∧ (.code yX11_finds cX11_finds 3 (some .int) : Cond) ∈ ALL ∧ (.initialized RX11 : Cond) ∈ ALL := ⟨wd_1869, wq_103, wd_1870, wd_18⟩
noncomputable abbrev w9_X11_findEcho : List Cond := .code yX11_findEcho cX11_findEcho 1 (some .int) :: ALL
abbrev r9_X11_findEcho : Room := { frames := 4, cells := 0, slots := 0, locals := 87 }
theorem cf_X11_findEcho : (.instanceMethod yX11_findEcho : Cond) ∈ ALL ∧ (.selects RX11 yX11_findEcho yX11_findEcho : Cond) ∈ ALL ∧ (.code yX11_findEcho cX11_findEcho 1 (some .int) : Cond) ∈ ALL ∧ (.initialized RX11 : Cond) ∈ ALL := ⟨wd_1864, wd_1865, wd_1866, wd_18⟩
noncomputable abbrev w9_X11_findValley : List Cond := .code yX11_findValley cX11_findValley 1 (some .int) :: ALL
abbrev r9_X11_findValley : Room := { frames := 4, cells := 0, slots := 0, locals := 87 }
theorem cf_X11_findValley : (.instanceMethod yX11_findValley : Cond) ∈ ALL ∧ (.selects RX11 yX11_findValley yX11_findValley : Cond) ∈ ALL ∧ (.code yX11_findValley cX11_findValley 1 (some .int) : Cond) ∈ ALL ∧ (.initialized RX11 : Cond) ∈ ALL := ⟨wd_1872, wd_1873, wd_1874, wd_18⟩
noncomputable abbrev w9_X11_delayOf : List Cond := .code yX11_delayOf cX11_delayOf 2 (some .int) :: ALL
abbrev r9_X11_delayOf : Room := { frames := 3, cells := 0, slots := 0, locals := 68 }
theorem cf_X11_delayOf : (.instanceMethod yX11_delayOf : Cond) ∈ ALL ∧ (.selects RX11 yX11_delayOf yX11_delayOf : Cond) ∈ ALL ∧ (.code yX11_delayOf cX11_delayOf 2 (some .int) : Cond) ∈ ALL ∧ (.initialized RX11 : Cond) ∈ ALL := ⟨wd_1876, wd_1877, wd_1878, wd_18⟩
noncomputable abbrev w9_X11_repeatsOf : List Cond := .code yX11_repeatsOf cX11_repeatsOf 2 (some .int) :: ALL
abbrev r9_X11_repeatsOf : Room := { frames := 3, cells := 0, slots := 0, locals := 68 }
theorem cf_X11_repeatsOf : (.instanceMethod yX11_repeatsOf : Cond) ∈ ALL ∧ (.selects RX11 yX11_repeatsOf yX11_repeatsOf : Cond) ∈ ALL ∧ (.code yX11_repeatsOf cX11_repeatsOf 2 (some .int) : Cond) ∈ ALL ∧ (.initialized RX11 : Cond) ∈ ALL := ⟨wd_1888, wd_1889, wd_1890, wd_18⟩
noncomputable abbrev w9_X11_reserveWage : List Cond := .code yX11_reserveWage cX11_reserveWage 2 (some .int) :: ALL
abbrev r9_X11_reserveWage : Room := { frames := 3, cells := 0, slots := 0, locals := 68 }
theorem cf_X11_reserveWage : (.instanceMethod yX11_reserveWage : Cond) ∈ ALL ∧ (.selects RX11 yX11_reserveWage yX11_reserveWage : Cond) ∈ ALL ∧ (.code yX11_reserveWage cX11_reserveWage 2 (some .int) : Cond) ∈ ALL ∧ (.initialized RX11 : Cond) ∈ ALL := ⟨wd_1892, wd_1893, wd_1894, wd_18⟩
noncomputable abbrev w9_X11_resistanceOf : List Cond := .code yX11_resistanceOf cX11_resistanceOf 2 (some .int) :: ALL
abbrev r9_X11_resistanceOf : Room := { frames := 3, cells := 0, slots := 0, locals := 68 }
theorem cf_X11_resistanceOf : (.instanceMethod yX11_resistanceOf : Cond) ∈ ALL ∧ (.selects RX11 yX11_resistanceOf yX11_resistanceOf : Cond) ∈ ALL ∧ (.code yX11_resistanceOf cX11_resistanceOf 2 (some .int) : Cond) ∈ ALL ∧ (.initialized RX11 : Cond) ∈ ALL := ⟨wd_1896, wd_1897, wd_1898, wd_18⟩
noncomputable abbrev w9_X11_savingsOf : List Cond := .code yX11_savingsOf cX11_savingsOf 2 (some .int) :: ALL
abbrev r9_X11_savingsOf : Room := { frames := 3, cells := 0, slots := 0, locals := 68 }
theorem cf_X11_savingsOf : (.instanceMethod yX11_savingsOf : Cond) ∈ ALL ∧ (.selects RX11 yX11_savingsOf yX11_savingsOf : Cond) ∈ ALL ∧ (.code yX11_savingsOf cX11_savingsOf 2 (some .int) : Cond) ∈ ALL ∧ (.initialized RX11 : Cond) ∈ ALL := ⟨wd_1900, wd_1901, wd_1902, wd_18⟩
noncomputable abbrev w9_X11_unpaidDays : List Cond := .code yX11_unpaidDays cX11_unpaidDays 2 (some .int) :: ALL
abbrev r9_X11_unpaidDays : Room := { frames := 3, cells := 0, slots := 0, locals := 68 }
theorem cf_X11_unpaidDays : (.instanceMethod yX11_unpaidDays : Cond) ∈ ALL ∧ (.selects RX11 yX11_unpaidDays yX11_unpaidDays : Cond) ∈ ALL ∧ (.code yX11_unpaidDays cX11_unpaidDays 2 (some .int) : Cond) ∈ ALL ∧ (.initialized RX11 : Cond) ∈ ALL := ⟨wd_1904, wd_1905, wd_1906, wd_18⟩
noncomputable abbrev w9_X11_employerOf : List Cond := .code yX11_employerOf cX11_employerOf 2 (some .int) :: ALL
abbrev r9_X11_employerOf : Room := { frames := 2, cells := 0, slots := 0, locals := 46 }
theorem cf_X11_employerOf : (.instanceMethod yX11_employerOf : Cond) ∈ ALL ∧ (.selects RX11 yX11_employerOf yX11_employerOf : Cond) ∈ ALL ∧ (.code yX11_employerOf cX11_employerOf 2 (some .int) : Cond) ∈ ALL ∧ (.initialized RX11 : Cond) ∈ ALL := ⟨wd_1908, wd_1909, wd_1910, wd_18⟩
noncomputable abbrev w9_X11_widthOf : List Cond := .code yX11_widthOf cX11_widthOf 2 (some .int) :: ALL
abbrev r9_X11_widthOf : Room := { frames := 3, cells := 0, slots := 0, locals := 68 }
theorem cf_X11_widthOf : (.instanceMethod yX11_widthOf : Cond) ∈ ALL ∧ (.selects RX11 yX11_widthOf yX11_widthOf : Cond) ∈ ALL ∧ (.code yX11_widthOf cX11_widthOf 2 (some .int) : Cond) ∈ ALL ∧ (.initialized RX11 : Cond) ∈ ALL := ⟨wd_1912, wd_1913, wd_1914, wd_18⟩
noncomputable abbrev w9_X11_postsOf : List Cond := .code yX11_postsOf cX11_postsOf 2 (some .int) :: ALL
abbrev r9_X11_postsOf : Room := { frames := 3, cells := 0, slots := 0, locals := 68 }
theorem cf_X11_postsOf : (.instanceMethod yX11_postsOf : Cond) ∈ ALL ∧ (.selects RX11 yX11_postsOf yX11_postsOf : Cond) ∈ ALL ∧ (.code yX11_postsOf cX11_postsOf 2 (some .int) : Cond) ∈ ALL ∧ (.initialized RX11 : Cond) ∈ ALL := ⟨wd_1924, wd_1925, wd_1926, wd_18⟩
noncomputable abbrev w9_X11_wageOf : List Cond := .code yX11_wageOf cX11_wageOf 2 (some .int) :: ALL
abbrev r9_X11_wageOf : Room := { frames := 3, cells := 0, slots := 0, locals := 68 }
theorem cf_X11_wageOf : (.instanceMethod yX11_wageOf : Cond) ∈ ALL ∧ (.selects RX11 yX11_wageOf yX11_wageOf : Cond) ∈ ALL ∧ (.code yX11_wageOf cX11_wageOf 2 (some .int) : Cond) ∈ ALL ∧ (.initialized RX11 : Cond) ∈ ALL := ⟨wd_1928, wd_1929, wd_1930, wd_18⟩
noncomputable abbrev w9_X11_purseOf : List Cond := .code yX11_purseOf cX11_purseOf 2 (some .int) :: ALL
abbrev r9_X11_purseOf : Room := { frames := 3, cells := 0, slots := 0, locals := 68 }
theorem cf_X11_purseOf : (.instanceMethod yX11_purseOf : Cond) ∈ ALL ∧ (.selects RX11 yX11_purseOf yX11_purseOf : Cond) ∈ ALL ∧ (.code yX11_purseOf cX11_purseOf 2 (some .int) : Cond) ∈ ALL ∧ (.initialized RX11 : Cond) ∈ ALL := ⟨wd_1932, wd_1933, wd_1934, wd_18⟩
noncomputable abbrev w9_X11_staffCount : List Cond := .code yX11_staffCount cX11_staffCount 2 (some .int) :: ALL
abbrev r9_X11_staffCount : Room := { frames := 3, cells := 0, slots := 0, locals := 68 }
theorem cf_X11_staffCount : (.instanceMethod yX11_staffCount : Cond) ∈ ALL ∧ (.selects RX11 yX11_staffCount yX11_staffCount : Cond) ∈ ALL ∧ (.code yX11_staffCount cX11_staffCount 2 (some .int) : Cond) ∈ ALL ∧ (.initialized RX11 : Cond) ∈ ALL := ⟨wd_1936, wd_1937, wd_1938, wd_18⟩
noncomputable abbrev w9_X11_staffMember : List Cond := .code yX11_staffMember cX11_staffMember 3 (some .int) :: ALL
abbrev r9_X11_staffMember : Room := { frames := 2, cells := 0, slots := 0, locals := 46 }
theorem cf_X11_staffMember : (.instanceMethod yX11_staffMember : Cond) ∈ ALL ∧ (.selects RX11 yX11_staffMember yX11_staffMember : Cond) ∈ ALL ∧ (.code yX11_staffMember cX11_staffMember 3 (some .int) : Cond) ∈ ALL ∧ (.initialized RX11 : Cond) ∈ ALL := ⟨wd_1940, wd_1941, wd_1942, wd_18⟩
noncomputable abbrev w9_X11_isTested : List Cond := .code yX11_isTested cX11_isTested 3 (some .boolean) :: ALL
abbrev r9_X11_isTested : Room := { frames := 3, cells := 0, slots := 0, locals := 68 }
theorem cf_X11_isTested : (.instanceMethod yX11_isTested : Cond) ∈ ALL ∧ (.selects RX11 yX11_isTested yX11_isTested : Cond) ∈ ALL ∧ (.code yX11_isTested cX11_isTested 3 (some .boolean) : Cond) ∈ ALL ∧ (.initialized RX11 : Cond) ∈ ALL := ⟨wd_1944, wd_1945, wd_1946, wd_18⟩
noncomputable abbrev w9_X11_seenScore : List Cond := .code yX11_seenScore cX11_seenScore 3 (some .int) :: ALL
abbrev r9_X11_seenScore : Room := { frames := 3, cells := 0, slots := 0, locals := 68 }
theorem cf_X11_seenScore : (.instanceMethod yX11_seenScore : Cond) ∈ ALL ∧ (.selects RX11 yX11_seenScore yX11_seenScore : Cond) ∈ ALL ∧ (.code yX11_seenScore cX11_seenScore 3 (some .int) : Cond) ∈ ALL ∧ (.initialized RX11 : Cond) ∈ ALL := ⟨wd_1952, wd_1953, wd_1954, wd_18⟩
noncomputable abbrev w9_X11_pairReason : List Cond := .code yX11_pairReason cX11_pairReason 3 (some .int) :: ALL
abbrev r9_X11_pairReason : Room := { frames := 4, cells := 0, slots := 0, locals := 88 }
theorem cf_X11_pairReason : (.instanceMethod yX11_pairReason : Cond) ∈ ALL ∧ (.selects RX11 yX11_pairReason yX11_pairReason : Cond) ∈ ALL ∧ (.code yX11_pairReason cX11_pairReason 3 (some .int) : Cond) ∈ ALL ∧ (.initialized RX11 : Cond) ∈ ALL := ⟨wd_1956, wd_1957, wd_1958, wd_18⟩
noncomputable abbrev w9_X11_valleyAt : List Cond := .code yX11_valleyAt cX11_valleyAt 6 (some .int) :: ALL
abbrev r9_X11_valleyAt : Room := { frames := 5, cells := 0, slots := 0, locals := 110 }
theorem cf_X11_valleyAt : (.instanceMethod yX11_valleyAt : Cond) ∈ ALL ∧ (.selects RX11 yX11_valleyAt yX11_valleyAt : Cond) ∈ ALL ∧ (.code yX11_valleyAt cX11_valleyAt 6 (some .int) : Cond) ∈ ALL ∧ (.initialized RX11 : Cond) ∈ ALL := ⟨wd_1965, wq_109, wd_1966, wd_18⟩
noncomputable abbrev w9_X11_preferredValley : List Cond := .code yX11_preferredValley cX11_preferredValley 3 (some .int) :: ALL
abbrev r9_X11_preferredValley : Room := { frames := 6, cells := 0, slots := 0, locals := 135 }
theorem cf_X11_preferredValley : (.instanceMethod yX11_preferredValley : Cond) ∈ ALL ∧ (.selects RX11 yX11_preferredValley yX11_preferredValley : Cond) ∈ ALL ∧ (.code yX11_preferredValley cX11_preferredValley 3 (some .int) : Cond) ∈ ALL ∧ (.initialized RX11 : Cond) ∈ ALL := ⟨wd_1960, wd_1961, wd_1962, wd_18⟩
noncomputable abbrev w9_X11_echoAt : List Cond := .code yX11_echoAt cX11_echoAt 6 (some .int) :: ALL
abbrev r9_X11_echoAt : Room := { frames := 5, cells := 0, slots := 0, locals := 110 }
theorem cf_X11_echoAt : (.instanceMethod yX11_echoAt : Cond) ∈ ALL ∧ (.selects RX11 yX11_echoAt yX11_echoAt : Cond) ∈ ALL ∧ (.code yX11_echoAt cX11_echoAt 6 (some .int) : Cond) ∈ ALL ∧ (.initialized RX11 : Cond) ∈ ALL := ⟨wd_1976, wq_110, wd_1977, wd_18⟩
noncomputable abbrev w9_X11_preferredEcho : List Cond := .code yX11_preferredEcho cX11_preferredEcho 3 (some .int) :: ALL
abbrev r9_X11_preferredEcho : Room := { frames := 6, cells := 0, slots := 0, locals := 135 }
theorem cf_X11_preferredEcho : (.instanceMethod yX11_preferredEcho : Cond) ∈ ALL ∧ (.selects RX11 yX11_preferredEcho yX11_preferredEcho : Cond) ∈ ALL ∧ (.code yX11_preferredEcho cX11_preferredEcho 3 (some .int) : Cond) ∈ ALL ∧ (.initialized RX11 : Cond) ∈ ALL := ⟨wd_1971, wd_1972, wd_1973, wd_18⟩
noncomputable abbrev w9_X11_wouldLeave : List Cond := .code yX11_wouldLeave cX11_wouldLeave 4 (some .boolean) :: ALL
abbrev r9_X11_wouldLeave : Room := { frames := 5, cells := 0, slots := 0, locals := 110 }
theorem cf_X11_wouldLeave : (.instanceMethod yX11_wouldLeave : Cond) ∈ ALL ∧ (.selects RX11 yX11_wouldLeave yX11_wouldLeave : Cond) ∈ ALL ∧ (.code yX11_wouldLeave cX11_wouldLeave 4 (some .boolean) : Cond) ∈ ALL ∧ (.initialized RX11 : Cond) ∈ ALL := ⟨wd_1988, wq_112, wd_1989, wd_18⟩
noncomputable abbrev w9_X11_wouldTake : List Cond := .code yX11_wouldTake cX11_wouldTake 4 (some .boolean) :: ALL
abbrev r9_X11_wouldTake : Room := { frames := 4, cells := 0, slots := 0, locals := 90 }
theorem cf_X11_wouldTake : (.instanceMethod yX11_wouldTake : Cond) ∈ ALL ∧ (.selects RX11 yX11_wouldTake yX11_wouldTake : Cond) ∈ ALL ∧ (.code yX11_wouldTake cX11_wouldTake 4 (some .boolean) : Cond) ∈ ALL ∧ (.initialized RX11 : Cond) ∈ ALL := ⟨wd_1992, wq_113, wd_1993, wd_18⟩
noncomputable abbrev w9_X11_isBlocking : List Cond := .code yX11_isBlocking cX11_isBlocking 3 (some .boolean) :: ALL
abbrev r9_X11_isBlocking : Room := { frames := 6, cells := 0, slots := 0, locals := 133 }
theorem cf_X11_isBlocking : (.instanceMethod yX11_isBlocking : Cond) ∈ ALL ∧ (.selects RX11 yX11_isBlocking yX11_isBlocking : Cond) ∈ ALL ∧ (.code yX11_isBlocking cX11_isBlocking 3 (some .boolean) : Cond) ∈ ALL ∧ (.initialized RX11 : Cond) ∈ ALL := ⟨wd_1984, wq_111, wd_1985, wd_18⟩
noncomputable abbrev w9_X11_blockingPairs : List Cond := .code yX11_blockingPairs cX11_blockingPairs 4 (some .int) :: ALL
abbrev r9_X11_blockingPairs : Room := { frames := 7, cells := 0, slots := 0, locals := 155 }
theorem cf_X11_blockingPairs : (.instanceMethod yX11_blockingPairs : Cond) ∈ ALL ∧ (.selects RX11 yX11_blockingPairs yX11_blockingPairs : Cond) ∈ ALL ∧ (.code yX11_blockingPairs cX11_blockingPairs 4 (some .int) : Cond) ∈ ALL ∧ (.initialized RX11 : Cond) ∈ ALL := ⟨wd_1979, wd_1980, wd_1981, wd_18⟩
noncomputable abbrev w9_X11_resultOf : List Cond := .code yX11_resultOf cX11_resultOf 2 (some .int) :: ALL
abbrev r9_X11_resultOf : Room := { frames := 7, cells := 0, slots := 0, locals := 159 }
theorem cf_X11_resultOf : (.instanceMethod yX11_resultOf : Cond) ∈ ALL ∧ (.selects RX11 yX11_resultOf yX11_resultOf : Cond) ∈ ALL ∧ (.code yX11_resultOf cX11_resultOf 2 (some .int) : Cond) ∈ ALL ∧ (.initialized RX11 : Cond) ∈ ALL := ⟨wd_2000, wq_114, wd_2001, wd_18⟩
noncomputable abbrev w9_X11_fairResult : List Cond := .code yX11_fairResult cX11_fairResult 2 (some .int) :: ALL
abbrev r9_X11_fairResult : Room := { frames := 8, cells := 0, slots := 0, locals := 180 }
theorem cf_X11_fairResult : (.instanceMethod yX11_fairResult : Cond) ∈ ALL ∧ (.selects RX11 yX11_fairResult yX11_fairResult : Cond) ∈ ALL ∧ (.code yX11_fairResult cX11_fairResult 2 (some .int) : Cond) ∈ ALL ∧ (.initialized RX11 : Cond) ∈ ALL := ⟨wd_1995, wd_1996, wd_1997, wd_18⟩
noncomputable abbrev w9_X11_areDays : List Cond := .code yX11_areDays cX11_areDays 1 (some .boolean) :: ALL
abbrev r9_X11_areDays : Room := { frames := 1, cells := 0, slots := 0, locals := 25 }
theorem cf_X11_areDays : (.static yX11_areDays : Cond) ∈ ALL ∧ (.initialized RX11 : Cond) ∈ ALL ∧ (.code yX11_areDays cX11_areDays 1 (some .boolean) : Cond) ∈ ALL ∧ (.initialized RX11 : Cond) ∈ ALL := ⟨wd_2015, wd_18, wd_2016, wd_18⟩
noncomputable abbrev w9_X11_savingsAfter : List Cond := .code yX11_savingsAfter cX11_savingsAfter 3 (some .int) :: ALL
abbrev r9_X11_savingsAfter : Room := { frames := 10, cells := 0, slots := 0, locals := 225 }
theorem cf_X11_savingsAfter : (.instanceMethod yX11_savingsAfter : Cond) ∈ ALL ∧ (.selects RX11 yX11_savingsAfter yX11_savingsAfter : Cond) ∈ ALL ∧ (.code yX11_savingsAfter cX11_savingsAfter 3 (some .int) : Cond) ∈ ALL ∧ (.initialized RX11 : Cond) ∈ ALL := ⟨wd_2011, wd_2012, wd_2013, wd_18⟩
noncomputable abbrev w9_X11_purseAfter : List Cond := .code yX11_purseAfter cX11_purseAfter 3 (some .int) :: ALL
abbrev r9_X11_purseAfter : Room := { frames := 10, cells := 0, slots := 0, locals := 225 }
theorem cf_X11_purseAfter : (.instanceMethod yX11_purseAfter : Cond) ∈ ALL ∧ (.selects RX11 yX11_purseAfter yX11_purseAfter : Cond) ∈ ALL ∧ (.code yX11_purseAfter cX11_purseAfter 3 (some .int) : Cond) ∈ ALL ∧ (.initialized RX11 : Cond) ∈ ALL := ⟨wd_2023, wd_2024, wd_2025, wd_18⟩
noncomputable abbrev w9_X11_desertsIn : List Cond := .code yX11_desertsIn cX11_desertsIn 4 (some .int) :: ALL
abbrev r9_X11_desertsIn : Room := { frames := 9, cells := 0, slots := 0, locals := 203 }
theorem cf_X11_desertsIn : (.instanceMethod yX11_desertsIn : Cond) ∈ ALL ∧ (.selects RX11 yX11_desertsIn yX11_desertsIn : Cond) ∈ ALL ∧ (.code yX11_desertsIn cX11_desertsIn 4 (some .int) : Cond) ∈ ALL ∧ (.initialized RX11 : Cond) ∈ ALL := ⟨wd_2027, wd_2028, wd_2029, wd_18⟩
noncomputable abbrev w9_X11_leastWage : List Cond := .code yX11_leastWage cX11_leastWage 6 (some .int) :: ALL
abbrev r9_X11_leastWage : Room := { frames := 8, cells := 0, slots := 0, locals := 180 }
theorem cf_X11_leastWage : (.instanceMethod yX11_leastWage : Cond) ∈ ALL ∧ (.selects RX11 yX11_leastWage yX11_leastWage : Cond) ∈ ALL ∧ (.code yX11_leastWage cX11_leastWage 6 (some .int) : Cond) ∈ ALL ∧ (.initialized RX11 : Cond) ∈ ALL := ⟨wd_2031, wd_2032, wd_2033, wd_18⟩
noncomputable abbrev w9_X11_bestTest : List Cond := .code yX11_bestTest cX11_bestTest 4 (some .int) :: ALL
abbrev r9_X11_bestTest : Room := { frames := 3, cells := 0, slots := 0, locals := 65 }
theorem cf_X11_bestTest : (.instanceMethod yX11_bestTest : Cond) ∈ ALL ∧ (.selects RX11 yX11_bestTest yX11_bestTest : Cond) ∈ ALL ∧ (.code yX11_bestTest cX11_bestTest 4 (some .int) : Cond) ∈ ALL ∧ (.initialized RX11 : Cond) ∈ ALL := ⟨wd_2035, wd_2036, wd_2037, wd_18⟩
noncomputable abbrev w9_X11_richestEcho : List Cond := .code yX11_richestEcho cX11_richestEcho 3 (some .int) :: ALL
abbrev r9_X11_richestEcho : Room := { frames := 1, cells := 0, slots := 0, locals := 22 }
theorem cf_X11_richestEcho : (.instanceMethod yX11_richestEcho : Cond) ∈ ALL ∧ (.selects RX11 yX11_richestEcho yX11_richestEcho : Cond) ∈ ALL ∧ (.code yX11_richestEcho cX11_richestEcho 3 (some .int) : Cond) ∈ ALL ∧ (.initialized RX11 : Cond) ∈ ALL := ⟨wd_2039, wd_2040, wd_2041, wd_18⟩
noncomputable abbrev w9_X11_daysServed : List Cond := .code yX11_daysServed cX11_daysServed 3 (some .int) :: ALL
abbrev r9_X11_daysServed : Room := { frames := 3, cells := 0, slots := 0, locals := 68 }
theorem cf_X11_daysServed : (.instanceMethod yX11_daysServed : Cond) ∈ ALL ∧ (.selects RX11 yX11_daysServed yX11_daysServed : Cond) ∈ ALL ∧ (.code yX11_daysServed cX11_daysServed 3 (some .int) : Cond) ∈ ALL ∧ (.initialized RX11 : Cond) ∈ ALL := ⟨wd_2043, wd_2044, wd_2045, wd_18⟩
noncomputable abbrev w9_X11_contractsMade : List Cond := .code yX11_contractsMade cX11_contractsMade 1 (some .int) :: ALL
abbrev r9_X11_contractsMade : Room := { frames := 1, cells := 0, slots := 0, locals := 21 }
theorem cf_X11_contractsMade : (.instanceMethod yX11_contractsMade : Cond) ∈ ALL ∧ (.selects RX11 yX11_contractsMade yX11_contractsMade : Cond) ∈ ALL ∧ (.code yX11_contractsMade cX11_contractsMade 1 (some .int) : Cond) ∈ ALL ∧ (.initialized RX11 : Cond) ∈ ALL := ⟨wd_2047, wd_2048, wd_2049, wd_18⟩
noncomputable abbrev w9_X11_contractsEnded : List Cond := .code yX11_contractsEnded cX11_contractsEnded 1 (some .int) :: ALL
abbrev r9_X11_contractsEnded : Room := { frames := 1, cells := 0, slots := 0, locals := 21 }
theorem cf_X11_contractsEnded : (.instanceMethod yX11_contractsEnded : Cond) ∈ ALL ∧ (.selects RX11 yX11_contractsEnded yX11_contractsEnded : Cond) ∈ ALL ∧ (.code yX11_contractsEnded cX11_contractsEnded 1 (some .int) : Cond) ∈ ALL ∧ (.initialized RX11 : Cond) ∈ ALL := ⟨wd_2051, wd_2052, wd_2053, wd_18⟩
noncomputable abbrev w9_X11_desertions : List Cond := .code yX11_desertions cX11_desertions 2 (some .int) :: ALL
abbrev r9_X11_desertions : Room := { frames := 3, cells := 0, slots := 0, locals := 68 }
theorem cf_X11_desertions : (.instanceMethod yX11_desertions : Cond) ∈ ALL ∧ (.selects RX11 yX11_desertions yX11_desertions : Cond) ∈ ALL ∧ (.code yX11_desertions cX11_desertions 2 (some .int) : Cond) ∈ ALL ∧ (.initialized RX11 : Cond) ∈ ALL := ⟨wd_2055, wd_2056, wd_2057, wd_18⟩
noncomputable abbrev w9_X11_repliesHeard : List Cond := .code yX11_repliesHeard cX11_repliesHeard 2 (some .int) :: ALL
abbrev r9_X11_repliesHeard : Room := { frames := 3, cells := 0, slots := 0, locals := 68 }
theorem cf_X11_repliesHeard : (.instanceMethod yX11_repliesHeard : Cond) ∈ ALL ∧ (.selects RX11 yX11_repliesHeard yX11_repliesHeard : Cond) ∈ ALL ∧ (.code yX11_repliesHeard cX11_repliesHeard 2 (some .int) : Cond) ∈ ALL ∧ (.initialized RX11 : Cond) ∈ ALL := ⟨wd_2059, wd_2060, wd_2061, wd_18⟩
noncomputable abbrev w9_X11_wagesPaid : List Cond := .code yX11_wagesPaid cX11_wagesPaid 2 (some .int) :: ALL
abbrev r9_X11_wagesPaid : Room := { frames := 3, cells := 0, slots := 0, locals := 68 }
theorem cf_X11_wagesPaid : (.instanceMethod yX11_wagesPaid : Cond) ∈ ALL ∧ (.selects RX11 yX11_wagesPaid yX11_wagesPaid : Cond) ∈ ALL ∧ (.code yX11_wagesPaid cX11_wagesPaid 2 (some .int) : Cond) ∈ ALL ∧ (.initialized RX11 : Cond) ∈ ALL := ⟨wd_2063, wd_2064, wd_2065, wd_18⟩
noncomputable abbrev w9_X11_savings : List Cond := .code yX11_savings cX11_savings 3 (some .int) :: ALL
abbrev r9_X11_savings : Room := { frames := 1, cells := 0, slots := 0, locals := 22 }
theorem cf_X11_savings : (.instanceMethod yX11_savings : Cond) ∈ ALL ∧ (.selects RX11 yX11_savings yX11_savings : Cond) ∈ ALL ∧ (.code yX11_savings cX11_savings 3 (some .int) : Cond) ∈ ALL ∧ (.initialized RX11 : Cond) ∈ ALL := ⟨wd_2076, wq_119, wd_2077, wd_18⟩
noncomputable abbrev w9_X11_purses : List Cond := .code yX11_purses cX11_purses 3 (some .int) :: ALL
abbrev r9_X11_purses : Room := { frames := 1, cells := 0, slots := 0, locals := 22 }
theorem cf_X11_purses : (.instanceMethod yX11_purses : Cond) ∈ ALL ∧ (.selects RX11 yX11_purses yX11_purses : Cond) ∈ ALL ∧ (.code yX11_purses cX11_purses 3 (some .int) : Cond) ∈ ALL ∧ (.initialized RX11 : Cond) ∈ ALL := ⟨wd_2072, wq_118, wd_2073, wd_18⟩
noncomputable abbrev w9_X11_contracts : List Cond := .code yX11_contracts cX11_contracts 3 (some .int) :: ALL
abbrev r9_X11_contracts : Room := { frames := 2, cells := 0, slots := 0, locals := 43 }
theorem cf_X11_contracts : (.instanceMethod yX11_contracts : Cond) ∈ ALL ∧ (.selects RX11 yX11_contracts yX11_contracts : Cond) ∈ ALL ∧ (.code yX11_contracts cX11_contracts 3 (some .int) : Cond) ∈ ALL ∧ (.initialized RX11 : Cond) ∈ ALL := ⟨wd_2084, wq_120, wd_2085, wd_18⟩
noncomputable abbrev w9_X11_moneyImbalance : List Cond := .code yX11_moneyImbalance cX11_moneyImbalance 1 (some .int) :: ALL
abbrev r9_X11_moneyImbalance : Room := { frames := 2, cells := 0, slots := 0, locals := 44 }
theorem cf_X11_moneyImbalance : (.instanceMethod yX11_moneyImbalance : Cond) ∈ ALL ∧ (.selects RX11 yX11_moneyImbalance yX11_moneyImbalance : Cond) ∈ ALL ∧ (.code yX11_moneyImbalance cX11_moneyImbalance 1 (some .int) : Cond) ∈ ALL ∧ (.initialized RX11 : Cond) ∈ ALL := ⟨wd_2067, wd_2068, wd_2069, wd_18⟩
noncomputable abbrev w9_X11_contractImbalance : List Cond := .code yX11_contractImbalance cX11_contractImbalance 1 (some .int) :: ALL
abbrev r9_X11_contractImbalance : Room := { frames := 3, cells := 0, slots := 0, locals := 65 }
theorem cf_X11_contractImbalance : (.instanceMethod yX11_contractImbalance : Cond) ∈ ALL ∧ (.selects RX11 yX11_contractImbalance yX11_contractImbalance : Cond) ∈ ALL ∧ (.code yX11_contractImbalance cX11_contractImbalance 1 (some .int) : Cond) ∈ ALL ∧ (.initialized RX11 : Cond) ∈ ALL := ⟨wd_2079, wd_2080, wd_2081, wd_18⟩
noncomputable abbrev w9_X11_servedBy : List Cond := .code yX11_servedBy cX11_servedBy 5 (some .int) :: ALL
abbrev r9_X11_servedBy : Room := { frames := 1, cells := 0, slots := 0, locals := 22 }
theorem cf_X11_servedBy : (.instanceMethod yX11_servedBy : Cond) ∈ ALL ∧ (.selects RX11 yX11_servedBy yX11_servedBy : Cond) ∈ ALL ∧ (.code yX11_servedBy cX11_servedBy 5 (some .int) : Cond) ∈ ALL ∧ (.initialized RX11 : Cond) ∈ ALL := ⟨wd_2092, wq_121, wd_2093, wd_18⟩
noncomputable abbrev w9_X11_doubleServants : List Cond := .code yX11_doubleServants cX11_doubleServants 3 (some .int) :: ALL
abbrev r9_X11_doubleServants : Room := { frames := 2, cells := 0, slots := 0, locals := 46 }
theorem cf_X11_doubleServants : (.instanceMethod yX11_doubleServants : Cond) ∈ ALL ∧ (.selects RX11 yX11_doubleServants yX11_doubleServants : Cond) ∈ ALL ∧ (.code yX11_doubleServants cX11_doubleServants 3 (some .int) : Cond) ∈ ALL ∧ (.initialized RX11 : Cond) ∈ ALL := ⟨wd_2087, wd_2088, wd_2089, wd_18⟩
noncomputable abbrev w9_X11_meanSavings : List Cond := .code yX11_meanSavings cX11_meanSavings 1 (some .double) :: ALL
abbrev r9_X11_meanSavings : Room := { frames := 2, cells := 0, slots := 0, locals := 44 }
theorem cf_X11_meanSavings : (.instanceMethod yX11_meanSavings : Cond) ∈ ALL ∧ (.selects RX11 yX11_meanSavings yX11_meanSavings : Cond) ∈ ALL ∧ (.code yX11_meanSavings cX11_meanSavings 1 (some .double) : Cond) ∈ ALL ∧ (.initialized RX11 : Cond) ∈ ALL := ⟨wd_2095, wd_2096, wd_2097, wd_18⟩
noncomputable abbrev w9_X11_employmentRate : List Cond := .code yX11_employmentRate cX11_employmentRate 1 (some .float) :: ALL
abbrev r9_X11_employmentRate : Room := { frames := 3, cells := 0, slots := 0, locals := 65 }
theorem cf_X11_employmentRate : (.instanceMethod yX11_employmentRate : Cond) ∈ ALL ∧ (.selects RX11 yX11_employmentRate yX11_employmentRate : Cond) ∈ ALL ∧ (.code yX11_employmentRate cX11_employmentRate 1 (some .float) : Cond) ∈ ALL ∧ (.initialized RX11 : Cond) ∈ ALL := ⟨wd_2099, wd_2100, wd_2101, wd_18⟩
noncomputable abbrev w9_X11_tried : List Cond := .code yX11_tried cX11_tried 2 (some .boolean) :: ALL
abbrev r9_X11_tried : Room := { frames := 1, cells := 0, slots := 0, locals := 24 }
theorem cf_X11_tried : (.instanceMethod yX11_tried : Cond) ∈ ALL ∧ (.selects RX11 yX11_tried yX11_tried : Cond) ∈ ALL ∧ (.code yX11_tried cX11_tried 2 (some .boolean) : Cond) ∈ ALL ∧ (.initialized RX11 : Cond) ∈ ALL := ⟨wd_2109, wq_122, wd_2110, wd_18⟩
noncomputable abbrev w9_X11_done : List Cond := .code yX11_done cX11_done 2 (some .int) :: ALL
abbrev r9_X11_done : Room := { frames := 2, cells := 0, slots := 0, locals := 46 }
theorem cf_X11_done : (.instanceMethod yX11_done : Cond) ∈ ALL ∧ (.selects RX11 yX11_done yX11_done : Cond) ∈ ALL ∧ (.code yX11_done cX11_done 2 (some .int) : Cond) ∈ ALL ∧ (.initialized RX11 : Cond) ∈ ALL := ⟨wd_2113, wq_123, wd_2114, wd_18⟩
noncomputable abbrev w9_X11_passDays : List Cond := .code yX11_passDays cX11_passDays 2 (some .int) :: ALL
abbrev r9_X11_passDays : Room := { frames := 11, cells := 0, slots := 0, locals := 247 }
theorem cf_X11_passDays : (.instanceMethod yX11_passDays : Cond) ∈ ALL ∧ (.selects RX11 yX11_passDays yX11_passDays : Cond) ∈ ALL ∧ (.code yX11_passDays cX11_passDays 2 (some .int) : Cond) ∈ ALL ∧ (.initialized RX11 : Cond) ∈ ALL := ⟨wd_2103, wd_2104, wd_2105, wd_18⟩
noncomputable abbrev w9_X11_holdFair : List Cond := .code yX11_holdFair cX11_holdFair 1 (some .int) :: ALL
abbrev r9_X11_holdFair : Room := { frames := 8, cells := 0, slots := 0, locals := 180 }
theorem cf_X11_holdFair : (.instanceMethod yX11_holdFair : Cond) ∈ ALL ∧ (.selects RX11 yX11_holdFair yX11_holdFair : Cond) ∈ ALL ∧ (.code yX11_holdFair cX11_holdFair 1 (some .int) : Cond) ∈ ALL ∧ (.initialized RX11 : Cond) ∈ ALL := ⟨wd_2116, wd_2117, wd_2118, wd_18⟩
noncomputable abbrev w9_X11_test : List Cond := .code yX11_test cX11_test 4 (some .int) :: ALL
abbrev r9_X11_test : Room := { frames := 4, cells := 0, slots := 0, locals := 87 }
theorem cf_X11_test : (.instanceMethod yX11_test : Cond) ∈ ALL ∧ (.selects RX11 yX11_test yX11_test : Cond) ∈ ALL ∧ (.code yX11_test cX11_test 4 (some .int) : Cond) ∈ ALL ∧ (.initialized RX11 : Cond) ∈ ALL := ⟨wd_2120, wd_2121, wd_2122, wd_18⟩
noncomputable abbrev w9_X11_dismiss : List Cond := .code yX11_dismiss cX11_dismiss 2 (some .int) :: ALL
abbrev r9_X11_dismiss : Room := { frames := 4, cells := 0, slots := 0, locals := 89 }
theorem cf_X11_dismiss : (.instanceMethod yX11_dismiss : Cond) ∈ ALL ∧ (.selects RX11 yX11_dismiss yX11_dismiss : Cond) ∈ ALL ∧ (.code yX11_dismiss cX11_dismiss 2 (some .int) : Cond) ∈ ALL ∧ (.initialized RX11 : Cond) ∈ ALL := ⟨wd_2124, wd_2125, wd_2126, wd_18⟩
noncomputable abbrev w9_X11_setWage : List Cond := .code yX11_setWage cX11_setWage 3 (some .int) :: ALL
abbrev r9_X11_setWage : Room := { frames := 3, cells := 0, slots := 0, locals := 67 }
theorem cf_X11_setWage : (.instanceMethod yX11_setWage : Cond) ∈ ALL ∧ (.selects RX11 yX11_setWage yX11_setWage : Cond) ∈ ALL ∧ (.code yX11_setWage cX11_setWage 3 (some .int) : Cond) ∈ ALL ∧ (.initialized RX11 : Cond) ∈ ALL := ⟨wd_2128, wd_2129, wd_2130, wd_18⟩
noncomputable abbrev w9_X11_fund : List Cond := .code yX11_fund cX11_fund 3 (some .int) :: ALL
abbrev r9_X11_fund : Room := { frames := 3, cells := 0, slots := 0, locals := 67 }
theorem cf_X11_fund : (.instanceMethod yX11_fund : Cond) ∈ ALL ∧ (.selects RX11 yX11_fund yX11_fund : Cond) ∈ ALL ∧ (.code yX11_fund cX11_fund 3 (some .int) : Cond) ∈ ALL ∧ (.initialized RX11 : Cond) ∈ ALL := ⟨wd_2133, wd_2134, wd_2135, wd_18⟩
noncomputable abbrev w9_X11_train : List Cond := .code yX11_train cX11_train 2 (some .int) :: ALL
abbrev r9_X11_train : Room := { frames := 3, cells := 0, slots := 0, locals := 67 }
theorem cf_X11_train : (.instanceMethod yX11_train : Cond) ∈ ALL ∧ (.selects RX11 yX11_train yX11_train : Cond) ∈ ALL ∧ (.code yX11_train cX11_train 2 (some .int) : Cond) ∈ ALL ∧ (.initialized RX11 : Cond) ∈ ALL := ⟨wd_2138, wd_2139, wd_2140, wd_18⟩
noncomputable abbrev w9_X11_undo : List Cond := .code yX11_undo cX11_undo 1 (some .int) :: ALL
abbrev r9_X11_undo : Room := { frames := 1, cells := 0, slots := 0, locals := 24 }
theorem cf_X11_undo : (.instanceMethod yX11_undo : Cond) ∈ ALL ∧ (.selects RX11 yX11_undo yX11_undo : Cond) ∈ ALL ∧ (.code yX11_undo cX11_undo 1 (some .int) : Cond) ∈ ALL ∧ (.initialized RX11 : Cond) ∈ ALL := ⟨wd_2142, wd_2143, wd_2144, wd_18⟩
noncomputable abbrev w9_X11_save : List Cond := .code yX11_save cX11_save 1 (some .int) :: ALL
abbrev r9_X11_save : Room := { frames := 1, cells := 0, slots := 0, locals := 24 }
theorem cf_X11_save : (.instanceMethod yX11_save : Cond) ∈ ALL ∧ (.selects RX11 yX11_save yX11_save : Cond) ∈ ALL ∧ (.code yX11_save cX11_save 1 (some .int) : Cond) ∈ ALL ∧ (.initialized RX11 : Cond) ∈ ALL := ⟨wd_2146, wd_2147, wd_2148, wd_18⟩
noncomputable abbrev w9_X11_restore : List Cond := .code yX11_restore cX11_restore 1 (some .int) :: ALL
abbrev r9_X11_restore : Room := { frames := 1, cells := 0, slots := 0, locals := 24 }
theorem cf_X11_restore : (.instanceMethod yX11_restore : Cond) ∈ ALL ∧ (.selects RX11 yX11_restore yX11_restore : Cond) ∈ ALL ∧ (.code yX11_restore cX11_restore 1 (some .int) : Cond) ∈ ALL ∧ (.initialized RX11 : Cond) ∈ ALL := ⟨wd_2150, wd_2151, wd_2152, wd_18⟩
noncomputable abbrev w9_X11_writes : List Cond := .code yX11_writes cX11_writes 2 none :: ALL
abbrev r9_X11_writes : Room := { frames := 0, cells := 0, slots := 0, locals := 0 }
theorem cf_X11_writes : (.instanceMethod yX11_writes : Cond) ∈ ALL ∧ (.selects RX11 yX11_writes yX11_writes : Cond) ∈ ALL ∧ (.code yX11_writes cX11_writes 2 none : Cond) ∈ ALL ∧ (.initialized RX11 : Cond) ∈ ALL := ⟨wd_2159, wq_124, wd_2160, wd_18⟩
noncomputable abbrev w9_X11_writesName : List Cond := .code yX11_writesName cX11_writesName 3 none :: ALL
abbrev r9_X11_writesName : Room := { frames := 1, cells := 0, slots := 0, locals := 21 }
theorem cf_X11_writesName : (.instanceMethod yX11_writesName : Cond) ∈ ALL ∧ (.selects RX11 yX11_writesName yX11_writesName : Cond) ∈ ALL ∧ (.code yX11_writesName cX11_writesName 3 none : Cond) ∈ ALL ∧ (.initialized RX11 : Cond) ∈ ALL := ⟨wd_2163, wq_125, wd_2164, wd_18⟩
noncomputable abbrev w9_X11_formatContracts : List Cond := .code yX11_formatContracts cX11_formatContracts 3 (some .int) :: ALL
abbrev r9_X11_formatContracts : Room := { frames := 2, cells := 0, slots := 0, locals := 43 }
theorem cf_X11_formatContracts : (.instanceMethod yX11_formatContracts : Cond) ∈ ALL ∧ (.selects RX11 yX11_formatContracts yX11_formatContracts : Cond) ∈ ALL ∧ (.code yX11_formatContracts cX11_formatContracts 3 (some .int) : Cond) ∈ ALL ∧ (.initialized RX11 : Cond) ∈ ALL := ⟨wd_2154, wd_2155, wd_2156, wd_18⟩
noncomputable abbrev w9_X11_outputByte : List Cond := .code yX11_outputByte cX11_outputByte 2 (some .int) :: ALL
abbrev r9_X11_outputByte : Room := { frames := 1, cells := 0, slots := 0, locals := 25 }
theorem cf_X11_outputByte : (.instanceMethod yX11_outputByte : Cond) ∈ ALL ∧ (.selects RX11 yX11_outputByte yX11_outputByte : Cond) ∈ ALL ∧ (.code yX11_outputByte cX11_outputByte 2 (some .int) : Cond) ∈ ALL ∧ (.initialized RX11 : Cond) ∈ ALL := ⟨wd_2166, wd_2167, wd_2168, wd_18⟩
noncomputable abbrev w9_J9_floorMod_7cf53 : List Cond := .code yJ9_floorMod_7cf53 cJ9_floorMod_7cf53 3 (some .int) :: ALL
abbrev r9_J9_floorMod_7cf53 : Room := { frames := 0, cells := 0, slots := 0, locals := 0 }
theorem cf_J9_floorMod_7cf53 : (.static yJ9_floorMod_7cf53 : Cond) ∈ ALL ∧ (.initialized RJ9 : Cond) ∈ ALL ∧ (.code yJ9_floorMod_7cf53 cJ9_floorMod_7cf53 3 (some .int) : Cond) ∈ ALL ∧ (.initialized RJ9 : Cond) ∈ ALL := ⟨wd_1051, wd_3, wd_1052, wd_3⟩
noncomputable abbrev w9_J9_abs_0f7a4 : List Cond := .code yJ9_abs_0f7a4 cJ9_abs_0f7a4 1 (some .int) :: ALL
abbrev r9_J9_abs_0f7a4 : Room := { frames := 0, cells := 0, slots := 0, locals := 0 }
theorem cf_J9_abs_0f7a4 : (.static yJ9_abs_0f7a4 : Cond) ∈ ALL ∧ (.initialized RJ9 : Cond) ∈ ALL ∧ (.code yJ9_abs_0f7a4 cJ9_abs_0f7a4 1 (some .int) : Cond) ∈ ALL ∧ (.initialized RJ9 : Cond) ∈ ALL := ⟨wd_1760, wd_3, wd_1761, wd_3⟩
noncomputable abbrev w9_J9_max_7cf53 : List Cond := .code yJ9_max_7cf53 cJ9_max_7cf53 2 (some .int) :: ALL
abbrev r9_J9_max_7cf53 : Room := { frames := 0, cells := 0, slots := 0, locals := 0 }
theorem cf_J9_max_7cf53 : (.static yJ9_max_7cf53 : Cond) ∈ ALL ∧ (.initialized RJ9 : Cond) ∈ ALL ∧ (.code yJ9_max_7cf53 cJ9_max_7cf53 2 (some .int) : Cond) ∈ ALL ∧ (.initialized RJ9 : Cond) ∈ ALL := ⟨wd_40, wd_3, wd_41, wd_3⟩
noncomputable abbrev w9_J0_length_8abf5 : List Cond := .code yJ0_length_8abf5 cJ0_length_8abf5 1 (some .int) :: ALL
abbrev r9_J0_length_8abf5 : Room := { frames := 1, cells := 0, slots := 0, locals := 20 }
theorem cf_J0_length_8abf5 : (.instanceMethod yJ0_length_8abf5 : Cond) ∈ ALL ∧ (.selects RJ0 yJ0_length_8abf5 yJ0_length_8abf5 : Cond) ∈ ALL ∧ (.code yJ0_length_8abf5 cJ0_length_8abf5 1 (some .int) : Cond) ∈ ALL ∧ (.initialized RJ0 : Cond) ∈ ALL := ⟨wd_386, wd_387, wd_388, wd_13⟩
noncomputable abbrev w9_J0_charAt_5068e : List Cond := .code yJ0_charAt_5068e cJ0_charAt_5068e 2 (some .char) :: ALL
abbrev r9_J0_charAt_5068e : Room := { frames := 3, cells := 0, slots := 0, locals := 64 }
theorem cf_J0_charAt_5068e : (.instanceMethod yJ0_charAt_5068e : Cond) ∈ ALL ∧ (.selects RJ0 yJ0_charAt_5068e yJ0_charAt_5068e : Cond) ∈ ALL ∧ (.code yJ0_charAt_5068e cJ0_charAt_5068e 2 (some .char) : Cond) ∈ ALL ∧ (.initialized RJ0 : Cond) ∈ ALL := ⟨wd_396, wd_397, wd_398, wd_13⟩
noncomputable abbrev w9_J0_coder_7d493 : List Cond := .code yJ0_coder_7d493 cJ0_coder_7d493 1 (some .byte) :: ALL
abbrev r9_J0_coder_7d493 : Room := { frames := 0, cells := 0, slots := 0, locals := 0 }
theorem cf_J0_coder_7d493 : (.instanceMethod yJ0_coder_7d493 : Cond) ∈ ALL ∧ (.selects RJ0 yJ0_coder_7d493 yJ0_coder_7d493 : Cond) ∈ ALL ∧ (.code yJ0_coder_7d493 cJ0_coder_7d493 1 (some .byte) : Cond) ∈ ALL ∧ (.initialized RJ0 : Cond) ∈ ALL := ⟨wd_390, wd_391, wd_392, wd_13⟩
noncomputable abbrev w9_J0_isLatin1_aae02 : List Cond := .code yJ0_isLatin1_aae02 cJ0_isLatin1_aae02 1 (some .boolean) :: ALL
abbrev r9_J0_isLatin1_aae02 : Room := { frames := 0, cells := 0, slots := 0, locals := 0 }
theorem cf_J0_isLatin1_aae02 : (.instanceMethod yJ0_isLatin1_aae02 : Cond) ∈ ALL ∧ (.selects RJ0 yJ0_isLatin1_aae02 yJ0_isLatin1_aae02 : Cond) ∈ ALL ∧ (.code yJ0_isLatin1_aae02 cJ0_isLatin1_aae02 1 (some .boolean) : Cond) ∈ ALL ∧ (.initialized RJ0 : Cond) ∈ ALL := ⟨wd_400, wd_401, wd_402, wd_13⟩
noncomputable abbrev w9_J0_checkIndex_df160 : List Cond := .code yJ0_checkIndex_df160 cJ0_checkIndex_df160 2 none :: ALL
abbrev r9_J0_checkIndex_df160 : Room := { frames := 1, cells := 0, slots := 0, locals := 22 }
theorem cf_J0_checkIndex_df160 : (.static yJ0_checkIndex_df160 : Cond) ∈ ALL ∧ (.initialized RJ0 : Cond) ∈ ALL ∧ (.code yJ0_checkIndex_df160 cJ0_checkIndex_df160 2 none : Cond) ∈ ALL ∧ (.initialized RJ0 : Cond) ∈ ALL := ⟨wd_407, wd_13, wd_408, wd_13⟩
noncomputable abbrev w9_J1_charAt_3b067 : List Cond := .code yJ1_charAt_3b067 cJ1_charAt_3b067 2 (some .char) :: ALL
abbrev r9_J1_charAt_3b067 : Room := { frames := 2, cells := 0, slots := 0, locals := 43 }
theorem cf_J1_charAt_3b067 : (.static yJ1_charAt_3b067 : Cond) ∈ ALL ∧ (.initialized RJ1 : Cond) ∈ ALL ∧ (.code yJ1_charAt_3b067 cJ1_charAt_3b067 2 (some .char) : Cond) ∈ ALL ∧ (.initialized RJ1 : Cond) ∈ ALL := ⟨wd_404, wd_14, wd_405, wd_14⟩
noncomputable abbrev w9_J3_checkIndex_8e157 : List Cond := .code yJ3_checkIndex_8e157 cJ3_checkIndex_8e157 3 (some .int) :: ALL
abbrev r9_J3_checkIndex_8e157 : Room := { frames := 0, cells := 0, slots := 0, locals := 0 }
theorem cf_J3_checkIndex_8e157 : (.static yJ3_checkIndex_8e157 : Cond) ∈ ALL ∧ (.initialized RJ3 : Cond) ∈ ALL ∧ (.code yJ3_checkIndex_8e157 cJ3_checkIndex_8e157 3 (some .int) : Cond) ∈ ALL ∧ (.initialized RJ3 : Cond) ∈ ALL := ⟨wd_412, wd_15, wd_413, wd_15⟩
noncomputable abbrev w9_L_append : List Cond := .codeWith yL_append cL_append 8 (some .int) [(0, 16, 19, 13)] :: ALL
abbrev r9_L_append : Room := { frames := 7, cells := 7, slots := 7, locals := 107 }
theorem cf_L_append : (.static yL_append : Cond) ∈ ALL ∧ (.initialized RL : Cond) ∈ ALL ∧ (.codeWith yL_append cL_append 8 (some .int) [(0, 16, 19, 13)] : Cond) ∈ ALL ∧ (.initialized RL : Cond) ∈ ALL := ⟨wd_857, wd_0, wd_858, wd_0⟩
noncomputable abbrev w9_L_truncate : List Cond := .codeWith yL_truncate cL_truncate 4 (some .int) [(0, 9, 12, 19)] :: ALL
abbrev r9_L_truncate : Room := { frames := 7, cells := 7, slots := 7, locals := 103 }
theorem cf_L_truncate : (.static yL_truncate : Cond) ∈ ALL ∧ (.initialized RL : Cond) ∈ ALL ∧ (.codeWith yL_truncate cL_truncate 4 (some .int) [(0, 9, 12, 19)] : Cond) ∈ ALL ∧ (.initialized RL : Cond) ∈ ALL := ⟨wd_936, wd_0, wd_937, wd_0⟩
noncomputable abbrev w9_L_load : List Cond := .codeWith yL_load cL_load 3 (some .int) [(0, 8, 11, 19)] :: ALL
abbrev r9_L_load : Room := { frames := 9, cells := 7, slots := 7, locals := 191 }
theorem cf_L_load : (.static yL_load : Cond) ∈ ALL ∧ (.initialized RL : Cond) ∈ ALL ∧ (.codeWith yL_load cL_load 3 (some .int) [(0, 8, 11, 19)] : Cond) ∈ ALL ∧ (.initialized RL : Cond) ∈ ALL := ⟨wd_960, wd_0, wd_961, wd_0⟩
noncomputable abbrev w9_L_executeCommands : List Cond := .codeWith yL_executeCommands cL_executeCommands 3 (some .int) [(0, 8, 11, 19)] :: ALL
abbrev r9_L_executeCommands : Room := { frames := 8, cells := 7, slots := 7, locals := 172 }
theorem cf_L_executeCommands : (.static yL_executeCommands : Cond) ∈ ALL ∧ (.initialized RL : Cond) ∈ ALL ∧ (.codeWith yL_executeCommands cL_executeCommands 3 (some .int) [(0, 8, 11, 19)] : Cond) ∈ ALL ∧ (.initialized RL : Cond) ∈ ALL := ⟨wd_972, wd_0, wd_973, wd_0⟩
noncomputable abbrev w9_L_fogOf : List Cond := .codeWith yL_fogOf cL_fogOf 4 (some .int) [(0, 9, 12, 19)] :: ALL
abbrev r9_L_fogOf : Room := { frames := 7, cells := 7, slots := 7, locals := 103 }
theorem cf_L_fogOf : (.static yL_fogOf : Cond) ∈ ALL ∧ (.initialized RL : Cond) ∈ ALL ∧ (.codeWith yL_fogOf cL_fogOf 4 (some .int) [(0, 9, 12, 19)] : Cond) ∈ ALL ∧ (.initialized RL : Cond) ∈ ALL := ⟨wd_1085, wd_0, wd_1086, wd_0⟩
noncomputable abbrev w9_L_delayOf : List Cond := .codeWith yL_delayOf cL_delayOf 4 (some .int) [(0, 9, 12, 34)] :: ALL
abbrev r9_L_delayOf : Room := { frames := 9, cells := 7, slots := 7, locals := 145 }
theorem cf_L_delayOf : (.static yL_delayOf : Cond) ∈ ALL ∧ (.initialized RL : Cond) ∈ ALL ∧ (.codeWith yL_delayOf cL_delayOf 4 (some .int) [(0, 9, 12, 34)] : Cond) ∈ ALL ∧ (.initialized RL : Cond) ∈ ALL := ⟨wd_1093, wd_0, wd_1094, wd_0⟩
noncomputable abbrev w9_L_repeatsOf : List Cond := .codeWith yL_repeatsOf cL_repeatsOf 4 (some .int) [(0, 9, 12, 34)] :: ALL
abbrev r9_L_repeatsOf : Room := { frames := 9, cells := 7, slots := 7, locals := 145 }
theorem cf_L_repeatsOf : (.static yL_repeatsOf : Cond) ∈ ALL ∧ (.initialized RL : Cond) ∈ ALL ∧ (.codeWith yL_repeatsOf cL_repeatsOf 4 (some .int) [(0, 9, 12, 34)] : Cond) ∈ ALL ∧ (.initialized RL : Cond) ∈ ALL := ⟨wd_1125, wd_0, wd_1126, wd_0⟩
noncomputable abbrev w9_L_reserveWage : List Cond := .codeWith yL_reserveWage cL_reserveWage 4 (some .int) [(0, 9, 12, 34)] :: ALL
abbrev r9_L_reserveWage : Room := { frames := 9, cells := 7, slots := 7, locals := 145 }
theorem cf_L_reserveWage : (.static yL_reserveWage : Cond) ∈ ALL ∧ (.initialized RL : Cond) ∈ ALL ∧ (.codeWith yL_reserveWage cL_reserveWage 4 (some .int) [(0, 9, 12, 34)] : Cond) ∈ ALL ∧ (.initialized RL : Cond) ∈ ALL := ⟨wd_1132, wd_0, wd_1133, wd_0⟩
noncomputable abbrev w9_L_resistanceOf : List Cond := .codeWith yL_resistanceOf cL_resistanceOf 4 (some .int) [(0, 9, 12, 34)] :: ALL
abbrev r9_L_resistanceOf : Room := { frames := 9, cells := 7, slots := 7, locals := 145 }
theorem cf_L_resistanceOf : (.static yL_resistanceOf : Cond) ∈ ALL ∧ (.initialized RL : Cond) ∈ ALL ∧ (.codeWith yL_resistanceOf cL_resistanceOf 4 (some .int) [(0, 9, 12, 34)] : Cond) ∈ ALL ∧ (.initialized RL : Cond) ∈ ALL := ⟨wd_1139, wd_0, wd_1140, wd_0⟩
noncomputable abbrev w9_L_savingsOf : List Cond := .codeWith yL_savingsOf cL_savingsOf 4 (some .int) [(0, 9, 12, 34)] :: ALL
abbrev r9_L_savingsOf : Room := { frames := 9, cells := 7, slots := 7, locals := 145 }
theorem cf_L_savingsOf : (.static yL_savingsOf : Cond) ∈ ALL ∧ (.initialized RL : Cond) ∈ ALL ∧ (.codeWith yL_savingsOf cL_savingsOf 4 (some .int) [(0, 9, 12, 34)] : Cond) ∈ ALL ∧ (.initialized RL : Cond) ∈ ALL := ⟨wd_1146, wd_0, wd_1147, wd_0⟩
noncomputable abbrev w9_L_unpaidDays : List Cond := .codeWith yL_unpaidDays cL_unpaidDays 4 (some .int) [(0, 9, 12, 34)] :: ALL
abbrev r9_L_unpaidDays : Room := { frames := 9, cells := 7, slots := 7, locals := 145 }
theorem cf_L_unpaidDays : (.static yL_unpaidDays : Cond) ∈ ALL ∧ (.initialized RL : Cond) ∈ ALL ∧ (.codeWith yL_unpaidDays cL_unpaidDays 4 (some .int) [(0, 9, 12, 34)] : Cond) ∈ ALL ∧ (.initialized RL : Cond) ∈ ALL := ⟨wd_1153, wd_0, wd_1154, wd_0⟩
noncomputable abbrev w9_L_employerOf : List Cond := .codeWith yL_employerOf cL_employerOf 4 (some .int) [(0, 9, 12, 34)] :: ALL
abbrev r9_L_employerOf : Room := { frames := 9, cells := 7, slots := 7, locals := 145 }
theorem cf_L_employerOf : (.static yL_employerOf : Cond) ∈ ALL ∧ (.initialized RL : Cond) ∈ ALL ∧ (.codeWith yL_employerOf cL_employerOf 4 (some .int) [(0, 9, 12, 34)] : Cond) ∈ ALL ∧ (.initialized RL : Cond) ∈ ALL := ⟨wd_1160, wd_0, wd_1161, wd_0⟩
noncomputable abbrev w9_L_widthOf : List Cond := .codeWith yL_widthOf cL_widthOf 4 (some .int) [(0, 9, 12, 34)] :: ALL
abbrev r9_L_widthOf : Room := { frames := 9, cells := 7, slots := 7, locals := 145 }
theorem cf_L_widthOf : (.static yL_widthOf : Cond) ∈ ALL ∧ (.initialized RL : Cond) ∈ ALL ∧ (.codeWith yL_widthOf cL_widthOf 4 (some .int) [(0, 9, 12, 34)] : Cond) ∈ ALL ∧ (.initialized RL : Cond) ∈ ALL := ⟨wd_1167, wd_0, wd_1168, wd_0⟩
noncomputable abbrev w9_L_postsOf : List Cond := .codeWith yL_postsOf cL_postsOf 4 (some .int) [(0, 9, 12, 34)] :: ALL
abbrev r9_L_postsOf : Room := { frames := 9, cells := 7, slots := 7, locals := 145 }
theorem cf_L_postsOf : (.static yL_postsOf : Cond) ∈ ALL ∧ (.initialized RL : Cond) ∈ ALL ∧ (.codeWith yL_postsOf cL_postsOf 4 (some .int) [(0, 9, 12, 34)] : Cond) ∈ ALL ∧ (.initialized RL : Cond) ∈ ALL := ⟨wd_1183, wd_0, wd_1184, wd_0⟩
noncomputable abbrev w9_L_wageOf : List Cond := .codeWith yL_wageOf cL_wageOf 4 (some .int) [(0, 9, 12, 34)] :: ALL
abbrev r9_L_wageOf : Room := { frames := 9, cells := 7, slots := 7, locals := 145 }
theorem cf_L_wageOf : (.static yL_wageOf : Cond) ∈ ALL ∧ (.initialized RL : Cond) ∈ ALL ∧ (.codeWith yL_wageOf cL_wageOf 4 (some .int) [(0, 9, 12, 34)] : Cond) ∈ ALL ∧ (.initialized RL : Cond) ∈ ALL := ⟨wd_1190, wd_0, wd_1191, wd_0⟩
noncomputable abbrev w9_L_purseOf : List Cond := .codeWith yL_purseOf cL_purseOf 4 (some .int) [(0, 9, 12, 34)] :: ALL
abbrev r9_L_purseOf : Room := { frames := 9, cells := 7, slots := 7, locals := 145 }
theorem cf_L_purseOf : (.static yL_purseOf : Cond) ∈ ALL ∧ (.initialized RL : Cond) ∈ ALL ∧ (.codeWith yL_purseOf cL_purseOf 4 (some .int) [(0, 9, 12, 34)] : Cond) ∈ ALL ∧ (.initialized RL : Cond) ∈ ALL := ⟨wd_1197, wd_0, wd_1198, wd_0⟩
noncomputable abbrev w9_L_staffCount : List Cond := .codeWith yL_staffCount cL_staffCount 4 (some .int) [(0, 9, 12, 34)] :: ALL
abbrev r9_L_staffCount : Room := { frames := 9, cells := 7, slots := 7, locals := 145 }
theorem cf_L_staffCount : (.static yL_staffCount : Cond) ∈ ALL ∧ (.initialized RL : Cond) ∈ ALL ∧ (.codeWith yL_staffCount cL_staffCount 4 (some .int) [(0, 9, 12, 34)] : Cond) ∈ ALL ∧ (.initialized RL : Cond) ∈ ALL := ⟨wd_1204, wd_0, wd_1205, wd_0⟩
noncomputable abbrev w9_L_staffMember : List Cond := .codeWith yL_staffMember cL_staffMember 5 (some .int) [(0, 10, 13, 34)] :: ALL
abbrev r9_L_staffMember : Room := { frames := 9, cells := 7, slots := 7, locals := 147 }
theorem cf_L_staffMember : (.static yL_staffMember : Cond) ∈ ALL ∧ (.initialized RL : Cond) ∈ ALL ∧ (.codeWith yL_staffMember cL_staffMember 5 (some .int) [(0, 10, 13, 34)] : Cond) ∈ ALL ∧ (.initialized RL : Cond) ∈ ALL := ⟨wd_1211, wd_0, wd_1212, wd_0⟩
noncomputable abbrev w9_L_isTested : List Cond := .codeWith yL_isTested cL_isTested 5 (some .int) [(0, 17, 20, 34)] :: ALL
abbrev r9_L_isTested : Room := { frames := 9, cells := 14, slots := 14, locals := 147 }
theorem cf_L_isTested : (.static yL_isTested : Cond) ∈ ALL ∧ (.initialized RL : Cond) ∈ ALL ∧ (.codeWith yL_isTested cL_isTested 5 (some .int) [(0, 17, 20, 34)] : Cond) ∈ ALL ∧ (.initialized RL : Cond) ∈ ALL := ⟨wd_1218, wd_0, wd_1219, wd_0⟩
noncomputable abbrev w9_L_seenScore : List Cond := .codeWith yL_seenScore cL_seenScore 5 (some .int) [(0, 10, 13, 34)] :: ALL
abbrev r9_L_seenScore : Room := { frames := 9, cells := 14, slots := 14, locals := 147 }
theorem cf_L_seenScore : (.static yL_seenScore : Cond) ∈ ALL ∧ (.initialized RL : Cond) ∈ ALL ∧ (.codeWith yL_seenScore cL_seenScore 5 (some .int) [(0, 10, 13, 34)] : Cond) ∈ ALL ∧ (.initialized RL : Cond) ∈ ALL := ⟨wd_1230, wd_0, wd_1231, wd_0⟩
noncomputable abbrev w9_L_pairReason : List Cond := .codeWith yL_pairReason cL_pairReason 5 (some .int) [(0, 10, 13, 34)] :: ALL
abbrev r9_L_pairReason : Room := { frames := 9, cells := 14, slots := 14, locals := 147 }
theorem cf_L_pairReason : (.static yL_pairReason : Cond) ∈ ALL ∧ (.initialized RL : Cond) ∈ ALL ∧ (.codeWith yL_pairReason cL_pairReason 5 (some .int) [(0, 10, 13, 34)] : Cond) ∈ ALL ∧ (.initialized RL : Cond) ∈ ALL := ⟨wd_1238, wd_0, wd_1239, wd_0⟩
noncomputable abbrev w9_L_preferredValley : List Cond := .codeWith yL_preferredValley cL_preferredValley 5 (some .int) [(0, 10, 13, 34)] :: ALL
abbrev r9_L_preferredValley : Room := { frames := 8, cells := 7, slots := 7, locals := 126 }
theorem cf_L_preferredValley : (.static yL_preferredValley : Cond) ∈ ALL ∧ (.initialized RL : Cond) ∈ ALL ∧ (.codeWith yL_preferredValley cL_preferredValley 5 (some .int) [(0, 10, 13, 34)] : Cond) ∈ ALL ∧ (.initialized RL : Cond) ∈ ALL := ⟨wd_1246, wd_0, wd_1247, wd_0⟩
noncomputable abbrev w9_L_preferredEcho : List Cond := .codeWith yL_preferredEcho cL_preferredEcho 5 (some .int) [(0, 10, 13, 34)] :: ALL
abbrev r9_L_preferredEcho : Room := { frames := 8, cells := 7, slots := 7, locals := 126 }
theorem cf_L_preferredEcho : (.static yL_preferredEcho : Cond) ∈ ALL ∧ (.initialized RL : Cond) ∈ ALL ∧ (.codeWith yL_preferredEcho cL_preferredEcho 5 (some .int) [(0, 10, 13, 34)] : Cond) ∈ ALL ∧ (.initialized RL : Cond) ∈ ALL := ⟨wd_1258, wd_0, wd_1259, wd_0⟩
noncomputable abbrev w9_L_fairResult : List Cond := .codeWith yL_fairResult cL_fairResult 4 (some .int) [(0, 9, 12, 34)] :: ALL
abbrev r9_L_fairResult : Room := { frames := 8, cells := 7, slots := 7, locals := 124 }
theorem cf_L_fairResult : (.static yL_fairResult : Cond) ∈ ALL ∧ (.initialized RL : Cond) ∈ ALL ∧ (.codeWith yL_fairResult cL_fairResult 4 (some .int) [(0, 9, 12, 34)] : Cond) ∈ ALL ∧ (.initialized RL : Cond) ∈ ALL := ⟨wd_1269, wd_0, wd_1270, wd_0⟩
noncomputable abbrev w9_L_savingsAfter : List Cond := .codeWith yL_savingsAfter cL_savingsAfter 5 (some .int) [(0, 10, 13, 34), (0, 10, 17, 19)] :: ALL
abbrev r9_L_savingsAfter : Room := { frames := 8, cells := 14, slots := 14, locals := 164 }
theorem cf_L_savingsAfter : (.static yL_savingsAfter : Cond) ∈ ALL ∧ (.initialized RL : Cond) ∈ ALL ∧ (.codeWith yL_savingsAfter cL_savingsAfter 5 (some .int) [(0, 10, 13, 34), (0, 10, 17, 19)] : Cond) ∈ ALL ∧ (.initialized RL : Cond) ∈ ALL := ⟨wd_1276, wd_0, wd_1277, wd_0⟩
noncomputable abbrev w9_L_purseAfter : List Cond := .codeWith yL_purseAfter cL_purseAfter 5 (some .int) [(0, 10, 13, 34), (0, 10, 17, 19)] :: ALL
abbrev r9_L_purseAfter : Room := { frames := 8, cells := 14, slots := 14, locals := 164 }
theorem cf_L_purseAfter : (.static yL_purseAfter : Cond) ∈ ALL ∧ (.initialized RL : Cond) ∈ ALL ∧ (.codeWith yL_purseAfter cL_purseAfter 5 (some .int) [(0, 10, 13, 34), (0, 10, 17, 19)] : Cond) ∈ ALL ∧ (.initialized RL : Cond) ∈ ALL := ⟨wd_1288, wd_0, wd_1289, wd_0⟩
noncomputable abbrev w9_L_desertsIn : List Cond := .codeWith yL_desertsIn cL_desertsIn 4 (some .int) [(0, 9, 12, 34)] :: ALL
abbrev r9_L_desertsIn : Room := { frames := 8, cells := 7, slots := 7, locals := 144 }
theorem cf_L_desertsIn : (.static yL_desertsIn : Cond) ∈ ALL ∧ (.initialized RL : Cond) ∈ ALL ∧ (.codeWith yL_desertsIn cL_desertsIn 4 (some .int) [(0, 9, 12, 34)] : Cond) ∈ ALL ∧ (.initialized RL : Cond) ∈ ALL := ⟨wd_1295, wd_0, wd_1296, wd_0⟩
noncomputable abbrev w9_L_leastWage : List Cond := .codeWith yL_leastWage cL_leastWage 5 (some .int) [(0, 10, 13, 34)] :: ALL
abbrev r9_L_leastWage : Room := { frames := 9, cells := 14, slots := 14, locals := 148 }
theorem cf_L_leastWage : (.static yL_leastWage : Cond) ∈ ALL ∧ (.initialized RL : Cond) ∈ ALL ∧ (.codeWith yL_leastWage cL_leastWage 5 (some .int) [(0, 10, 13, 34)] : Cond) ∈ ALL ∧ (.initialized RL : Cond) ∈ ALL := ⟨wd_1302, wd_0, wd_1303, wd_0⟩
noncomputable abbrev w9_L_bestTest : List Cond := .codeWith yL_bestTest cL_bestTest 4 (some .int) [(0, 9, 12, 34)] :: ALL
abbrev r9_L_bestTest : Room := { frames := 8, cells := 7, slots := 7, locals := 128 }
theorem cf_L_bestTest : (.static yL_bestTest : Cond) ∈ ALL ∧ (.initialized RL : Cond) ∈ ALL ∧ (.codeWith yL_bestTest cL_bestTest 4 (some .int) [(0, 9, 12, 34)] : Cond) ∈ ALL ∧ (.initialized RL : Cond) ∈ ALL := ⟨wd_1309, wd_0, wd_1310, wd_0⟩
noncomputable abbrev w9_L_daysServed : List Cond := .codeWith yL_daysServed cL_daysServed 5 (some .int) [(0, 10, 13, 34)] :: ALL
abbrev r9_L_daysServed : Room := { frames := 9, cells := 14, slots := 14, locals := 147 }
theorem cf_L_daysServed : (.static yL_daysServed : Cond) ∈ ALL ∧ (.initialized RL : Cond) ∈ ALL ∧ (.codeWith yL_daysServed cL_daysServed 5 (some .int) [(0, 10, 13, 34)] : Cond) ∈ ALL ∧ (.initialized RL : Cond) ∈ ALL := ⟨wd_1317, wd_0, wd_1318, wd_0⟩
noncomputable abbrev w9_L_desertions : List Cond := .codeWith yL_desertions cL_desertions 4 (some .int) [(0, 9, 12, 34)] :: ALL
abbrev r9_L_desertions : Room := { frames := 9, cells := 7, slots := 7, locals := 145 }
theorem cf_L_desertions : (.static yL_desertions : Cond) ∈ ALL ∧ (.initialized RL : Cond) ∈ ALL ∧ (.codeWith yL_desertions cL_desertions 4 (some .int) [(0, 9, 12, 34)] : Cond) ∈ ALL ∧ (.initialized RL : Cond) ∈ ALL := ⟨wd_1324, wd_0, wd_1325, wd_0⟩
noncomputable abbrev w9_L_repliesHeard : List Cond := .codeWith yL_repliesHeard cL_repliesHeard 4 (some .int) [(0, 9, 12, 34)] :: ALL
abbrev r9_L_repliesHeard : Room := { frames := 9, cells := 7, slots := 7, locals := 145 }
theorem cf_L_repliesHeard : (.static yL_repliesHeard : Cond) ∈ ALL ∧ (.initialized RL : Cond) ∈ ALL ∧ (.codeWith yL_repliesHeard cL_repliesHeard 4 (some .int) [(0, 9, 12, 34)] : Cond) ∈ ALL ∧ (.initialized RL : Cond) ∈ ALL := ⟨wd_1331, wd_0, wd_1332, wd_0⟩
noncomputable abbrev w9_L_wagesPaid : List Cond := .codeWith yL_wagesPaid cL_wagesPaid 4 (some .int) [(0, 9, 12, 34)] :: ALL
abbrev r9_L_wagesPaid : Room := { frames := 9, cells := 7, slots := 7, locals := 145 }
theorem cf_L_wagesPaid : (.static yL_wagesPaid : Cond) ∈ ALL ∧ (.initialized RL : Cond) ∈ ALL ∧ (.codeWith yL_wagesPaid cL_wagesPaid 4 (some .int) [(0, 9, 12, 34)] : Cond) ∈ ALL ∧ (.initialized RL : Cond) ∈ ALL := ⟨wd_1338, wd_0, wd_1339, wd_0⟩
noncomputable abbrev w9_L_passDays : List Cond := .codeWith yL_passDays cL_passDays 4 (some .int) [(0, 9, 12, 19)] :: ALL
abbrev r9_L_passDays : Room := { frames := 7, cells := 7, slots := 7, locals := 142 }
theorem cf_L_passDays : (.static yL_passDays : Cond) ∈ ALL ∧ (.initialized RL : Cond) ∈ ALL ∧ (.codeWith yL_passDays cL_passDays 4 (some .int) [(0, 9, 12, 19)] : Cond) ∈ ALL ∧ (.initialized RL : Cond) ∈ ALL := ⟨wd_1345, wd_0, wd_1346, wd_0⟩
noncomputable abbrev w9_L_test : List Cond := .codeWith yL_test cL_test 5 (some .int) [(0, 10, 13, 34), (0, 10, 17, 13)] :: ALL
abbrev r9_L_test : Room := { frames := 9, cells := 21, slots := 21, locals := 147 }
theorem cf_L_test : (.static yL_test : Cond) ∈ ALL ∧ (.initialized RL : Cond) ∈ ALL ∧ (.codeWith yL_test cL_test 5 (some .int) [(0, 10, 13, 34), (0, 10, 17, 13)] : Cond) ∈ ALL ∧ (.initialized RL : Cond) ∈ ALL := ⟨wd_1352, wd_0, wd_1353, wd_0⟩
noncomputable abbrev w9_L_dismiss : List Cond := .codeWith yL_dismiss cL_dismiss 4 (some .int) [(0, 9, 12, 34), (0, 9, 15, 13)] :: ALL
abbrev r9_L_dismiss : Room := { frames := 9, cells := 14, slots := 14, locals := 146 }
theorem cf_L_dismiss : (.static yL_dismiss : Cond) ∈ ALL ∧ (.initialized RL : Cond) ∈ ALL ∧ (.codeWith yL_dismiss cL_dismiss 4 (some .int) [(0, 9, 12, 34), (0, 9, 15, 13)] : Cond) ∈ ALL ∧ (.initialized RL : Cond) ∈ ALL := ⟨wd_1360, wd_0, wd_1361, wd_0⟩
noncomputable abbrev w9_L_setWage : List Cond := .codeWith yL_setWage cL_setWage 5 (some .int) [(0, 10, 13, 34), (0, 10, 17, 19)] :: ALL
abbrev r9_L_setWage : Room := { frames := 9, cells := 14, slots := 14, locals := 148 }
theorem cf_L_setWage : (.static yL_setWage : Cond) ∈ ALL ∧ (.initialized RL : Cond) ∈ ALL ∧ (.codeWith yL_setWage cL_setWage 5 (some .int) [(0, 10, 13, 34), (0, 10, 17, 19)] : Cond) ∈ ALL ∧ (.initialized RL : Cond) ∈ ALL := ⟨wd_1368, wd_0, wd_1369, wd_0⟩
noncomputable abbrev w9_L_fund : List Cond := .codeWith yL_fund cL_fund 5 (some .int) [(0, 10, 13, 34), (0, 10, 17, 19)] :: ALL
abbrev r9_L_fund : Room := { frames := 9, cells := 14, slots := 14, locals := 147 }
theorem cf_L_fund : (.static yL_fund : Cond) ∈ ALL ∧ (.initialized RL : Cond) ∈ ALL ∧ (.codeWith yL_fund cL_fund 5 (some .int) [(0, 10, 13, 34), (0, 10, 17, 19)] : Cond) ∈ ALL ∧ (.initialized RL : Cond) ∈ ALL := ⟨wd_1376, wd_0, wd_1377, wd_0⟩
noncomputable abbrev w9_L_train : List Cond := .codeWith yL_train cL_train 4 (some .int) [(0, 9, 12, 34), (0, 9, 15, 13)] :: ALL
abbrev r9_L_train : Room := { frames := 9, cells := 14, slots := 14, locals := 146 }
theorem cf_L_train : (.static yL_train : Cond) ∈ ALL ∧ (.initialized RL : Cond) ∈ ALL ∧ (.codeWith yL_train cL_train 4 (some .int) [(0, 9, 12, 34), (0, 9, 15, 13)] : Cond) ∈ ALL ∧ (.initialized RL : Cond) ∈ ALL := ⟨wd_1384, wd_0, wd_1385, wd_0⟩
noncomputable abbrev w9_L_undo : List Cond := .codeWith yL_undo cL_undo 3 (some .int) [(0, 8, 11, 13)] :: ALL
abbrev r9_L_undo : Room := { frames := 7, cells := 7, slots := 7, locals := 110 }
theorem cf_L_undo : (.static yL_undo : Cond) ∈ ALL ∧ (.initialized RL : Cond) ∈ ALL ∧ (.codeWith yL_undo cL_undo 3 (some .int) [(0, 8, 11, 13)] : Cond) ∈ ALL ∧ (.initialized RL : Cond) ∈ ALL := ⟨wd_1392, wd_0, wd_1393, wd_0⟩
noncomputable abbrev w9_L_restore : List Cond := .codeWith yL_restore cL_restore 3 (some .int) [(0, 8, 11, 13)] :: ALL
abbrev r9_L_restore : Room := { frames := 7, cells := 7, slots := 7, locals := 102 }
theorem cf_L_restore : (.static yL_restore : Cond) ∈ ALL ∧ (.initialized RL : Cond) ∈ ALL ∧ (.codeWith yL_restore cL_restore 3 (some .int) [(0, 8, 11, 13)] : Cond) ∈ ALL ∧ (.initialized RL : Cond) ∈ ALL := ⟨wd_1404, wd_0, wd_1405, wd_0⟩
noncomputable def infTr : TrT (MethodName × List Cond × Room) 9 := ((((((((((yX0_init, w9_X0_init, r9_X0_init), (yX0_add, w9_X0_add, r9_X0_add)), ((yX0_addInt, w9_X0_addInt, r9_X0_addInt), (yX0_addName, w9_X0_addName, r9_X0_addName))), (((yX0_byteAt, w9_X0_byteAt, r9_X0_byteAt), (yX0_nameAt, w9_X0_nameAt, r9_X0_nameAt)), ((yX1_init, w9_X1_init, r9_X1_init), (yX1_parse, w9_X1_parse, r9_X1_parse)))), ((((yX1_verbRead, w9_X1_verbRead, r9_X1_verbRead), (yX1_takeParameters, w9_X1_takeParameters, r9_X1_takeParameters)), ((yX1_takeValleyAndMore, w9_X1_takeValleyAndMore, r9_X1_takeValleyAndMore), (yX2_init, w9_X2_init, r9_X2_init))), (((yX2_parse, w9_X2_parse, r9_X2_parse), (yX2_isComplete, w9_X2_isComplete, r9_X2_isComplete)), ((yX2_takeSeason, w9_X2_takeSeason, r9_X2_takeSeason), (yX2_takeFog, w9_X2_takeFog, r9_X2_takeFog))))), (((((yX2_takeStatement, w9_X2_takeStatement, r9_X2_takeStatement), (yX2_takeNewEcho, w9_X2_takeNewEcho, r9_X2_takeNewEcho)), ((yX2_takeNewValley, w9_X2_takeNewValley, r9_X2_takeNewValley), (yX2_takeTest, w9_X2_takeTest, r9_X2_takeTest))), (((yX3_init, w9_X3_init, r9_X3_init), (yX3_start, w9_X3_start, r9_X3_start)), ((yX3_copyFrom, w9_X3_copyFrom, r9_X3_copyFrom), (yX3_lessonPrice, w9_X3_lessonPrice, r9_X3_lessonPrice)))), ((((yX3_canLearn, w9_X3_canLearn, r9_X3_canLearn), (yX3_leavesIn, w9_X3_leavesIn, r9_X3_leavesIn)), ((yX4_init, w9_X4_init, r9_X4_init), (yX4_push, w9_X4_push, r9_X4_push))), (((yX4_pop, w9_X4_pop, r9_X4_pop), (yX5_init, w9_X5_init, r9_X5_init)), ((yX5_hold, w9_X5_hold, r9_X5_hold), (yX5_enrol, w9_X5_enrol, r9_X5_enrol)))))), ((((((yX5_weigh, w9_X5_weigh, r9_X5_weigh), (yX5_enqueue, w9_X5_enqueue, r9_X5_enqueue)), ((yX5_favourite, w9_X5_favourite, r9_X5_favourite), (yX5_apply, w9_X5_apply, r9_X5_apply))), (((yX5_leastKept, w9_X5_leastKept, r9_X5_leastKept), (yX5_prefers, w9_X5_prefers, r9_X5_prefers)), ((yX5_sign, w9_X5_sign, r9_X5_sign), (yX6_init, w9_X6_init, r9_X6_init)))), ((((yX6_copyFrom, w9_X6_copyFrom, r9_X6_copyFrom), (yX6_startsOn, w9_X6_startsOn, r9_X6_startsOn)), ((yX6_fogOn, w9_X6_fogOn, r9_X6_fogOn), (yX6_addLevel, w9_X6_addLevel, r9_X6_addLevel))), (((yX7_init, w9_X7_init, r9_X7_init), (yX7_begin, w9_X7_begin, r9_X7_begin)), ((yX7_fail, w9_X7_fail, r9_X7_fail), (yX7_kindOf, w9_X7_kindOf, r9_X7_kindOf))))), (((((yX7_next, w9_X7_next, r9_X7_next), (yX7_wordIs, w9_X7_wordIs, r9_X7_wordIs)), ((yX7_name, w9_X7_name, r9_X7_name), (yX7_takeWord, w9_X7_takeWord, r9_X7_takeWord))), (((yX7_takeSemicolon, w9_X7_takeSemicolon, r9_X7_takeSemicolon), (yX7_isName, w9_X7_isName, r9_X7_isName)), ((yX7_takeName, w9_X7_takeName, r9_X7_takeName), (yX7_takeNumber, w9_X7_takeNumber, r9_X7_takeNumber)))), ((((yX7_checkNumber, w9_X7_checkNumber, r9_X7_checkNumber), (yX7_takeEcho, w9_X7_takeEcho, r9_X7_takeEcho)), ((yX7_takeValley, w9_X7_takeValley, r9_X7_takeValley), (yX8_init, w9_X8_init, r9_X8_init))), (((yX8_start, w9_X8_start, r9_X8_start), (yX8_copyFrom, w9_X8_copyFrom, r9_X8_copyFrom)), ((yX8_hasTested, w9_X8_hasTested, r9_X8_hasTested), (yX8_noteTest, w9_X8_noteTest, r9_X8_noteTest))))))), (((((((yX8_hasLost, w9_X8_hasLost, r9_X8_hasLost), (yX8_hasFreePost, w9_X8_hasFreePost, r9_X8_hasFreePost)), ((yX8_hire, w9_X8_hire, r9_X8_hire), (yX8_release, w9_X8_release, r9_X8_release))), (((yX9_init, w9_X9_init, r9_X9_init), (yX9_clear, w9_X9_clear, r9_X9_clear)), ((yX9_copyFrom, w9_X9_copyFrom, r9_X9_copyFrom), (yX9_echoNamed, w9_X9_echoNamed, r9_X9_echoNamed)))), ((((yX9_valleyNamed, w9_X9_valleyNamed, r9_X9_valleyNamed), (yX9_trueScore, w9_X9_trueScore, r9_X9_trueScore)), ((yX9_scoreSeen, w9_X9_scoreSeen, r9_X9_scoreSeen), (yX9_reasonAt, w9_X9_reasonAt, r9_X9_reasonAt))), (((yX9_isAcceptable, w9_X9_isAcceptable, r9_X9_isAcceptable), (yX9_paysBetter, w9_X9_paysBetter, r9_X9_paysBetter)), ((yX9_prefersEcho, w9_X9_prefersEcho, r9_X9_prefersEcho), (yX9_rankOfValley, w9_X9_rankOfValley, r9_X9_rankOfValley))))), (((((yX9_rankOfEcho, w9_X9_rankOfEcho, r9_X9_rankOfEcho), (yX9_isBlocking, w9_X9_isBlocking, r9_X9_isBlocking)), ((yX9_wouldMove, w9_X9_wouldMove, r9_X9_wouldMove), (yX9_wouldTake, w9_X9_wouldTake, r9_X9_wouldTake))), (((yX9_canTest, w9_X9_canTest, r9_X9_canTest), (yX9_employ, w9_X9_employ, r9_X9_employ)), ((yX9_endContract, w9_X9_endContract, r9_X9_endContract), (yX9_endSeason, w9_X9_endSeason, r9_X9_endSeason)))), ((((yX9_work, w9_X9_work, r9_X9_work), (yX9_hearReplies, w9_X9_hearReplies, r9_X9_hearReplies)), ((yX9_payStaff, w9_X9_payStaff, r9_X9_payStaff), (yX9_desert, w9_X9_desert, r9_X9_desert))), (((yX9_putMoney, w9_X9_putMoney, r9_X9_putMoney), (yX9_teach, w9_X9_teach, r9_X9_teach)), ((yX9_moneyInPurses, w9_X9_moneyInPurses, r9_X9_moneyInPurses), (yX9_moneySaved, w9_X9_moneySaved, r9_X9_moneySaved)))))), ((((((yX9_contracts, w9_X9_contracts, r9_X9_contracts), (yX9_valleysServedBy, w9_X9_valleysServedBy, r9_X9_valleysServedBy)), ((yX10_init, w9_X10_init, r9_X10_init), (yX10_append, w9_X10_append, r9_X10_append))), (((yX10_truncate, w9_X10_truncate, r9_X10_truncate), (yX10_load, w9_X10_load, r9_X10_load)), ((yX10_executeCommands, w9_X10_executeCommands, r9_X10_executeCommands), (yX10_errorCode, w9_X10_errorCode, r9_X10_errorCode)))), ((((yX10_errorPosition, w9_X10_errorPosition, r9_X10_errorPosition), (yX10_echoCount, w9_X10_echoCount, r9_X10_echoCount)), ((yX10_valleyCount, w9_X10_valleyCount, r9_X10_valleyCount), (yX10_day, w9_X10_day, r9_X10_day))), (((yX10_seasonLength, w9_X10_seasonLength, r9_X10_seasonLength), (yX10_fogOf, w9_X10_fogOf, r9_X10_fogOf)), ((yX10_findEcho, w9_X10_findEcho, r9_X10_findEcho), (yX10_findValley, w9_X10_findValley, r9_X10_findValley))))), (((((yX10_delayOf, w9_X10_delayOf, r9_X10_delayOf), (yX10_repeatsOf, w9_X10_repeatsOf, r9_X10_repeatsOf)), ((yX10_reserveWage, w9_X10_reserveWage, r9_X10_reserveWage), (yX10_resistanceOf, w9_X10_resistanceOf, r9_X10_resistanceOf))), (((yX10_savingsOf, w9_X10_savingsOf, r9_X10_savingsOf), (yX10_unpaidDays, w9_X10_unpaidDays, r9_X10_unpaidDays)), ((yX10_employerOf, w9_X10_employerOf, r9_X10_employerOf), (yX10_widthOf, w9_X10_widthOf, r9_X10_widthOf)))), ((((yX10_postsOf, w9_X10_postsOf, r9_X10_postsOf), (yX10_wageOf, w9_X10_wageOf, r9_X10_wageOf)), ((yX10_purseOf, w9_X10_purseOf, r9_X10_purseOf), (yX10_staffCount, w9_X10_staffCount, r9_X10_staffCount))), (((yX10_staffMember, w9_X10_staffMember, r9_X10_staffMember), (yX10_isTested, w9_X10_isTested, r9_X10_isTested)), ((yX10_seenScore, w9_X10_seenScore, r9_X10_seenScore), (yX10_pairReason, w9_X10_pairReason, r9_X10_pairReason)))))))), ((((((((yX10_preferredValley, w9_X10_preferredValley, r9_X10_preferredValley), (yX10_preferredEcho, w9_X10_preferredEcho, r9_X10_preferredEcho)), ((yX10_blockingPairs, w9_X10_blockingPairs, r9_X10_blockingPairs), (yX10_fairResult, w9_X10_fairResult, r9_X10_fairResult))), (((yX10_savingsAfter, w9_X10_savingsAfter, r9_X10_savingsAfter), (yX10_purseAfter, w9_X10_purseAfter, r9_X10_purseAfter)), ((yX10_desertsIn, w9_X10_desertsIn, r9_X10_desertsIn), (yX10_leastWage, w9_X10_leastWage, r9_X10_leastWage)))), ((((yX10_bestTest, w9_X10_bestTest, r9_X10_bestTest), (yX10_richestEcho, w9_X10_richestEcho, r9_X10_richestEcho)), ((yX10_daysServed, w9_X10_daysServed, r9_X10_daysServed), (yX10_contractsMade, w9_X10_contractsMade, r9_X10_contractsMade))), (((yX10_contractsEnded, w9_X10_contractsEnded, r9_X10_contractsEnded), (yX10_desertions, w9_X10_desertions, r9_X10_desertions)), ((yX10_repliesHeard, w9_X10_repliesHeard, r9_X10_repliesHeard), (yX10_wagesPaid, w9_X10_wagesPaid, r9_X10_wagesPaid))))), (((((yX10_moneyImbalance, w9_X10_moneyImbalance, r9_X10_moneyImbalance), (yX10_contractImbalance, w9_X10_contractImbalance, r9_X10_contractImbalance)), ((yX10_doubleServants, w9_X10_doubleServants, r9_X10_doubleServants), (yX10_meanSavings, w9_X10_meanSavings, r9_X10_meanSavings))), (((yX10_employmentRate, w9_X10_employmentRate, r9_X10_employmentRate), (yX10_passDays, w9_X10_passDays, r9_X10_passDays)), ((yX10_holdFair, w9_X10_holdFair, r9_X10_holdFair), (yX10_test, w9_X10_test, r9_X10_test)))), ((((yX10_dismiss, w9_X10_dismiss, r9_X10_dismiss), (yX10_setWage, w9_X10_setWage, r9_X10_setWage)), ((yX10_fund, w9_X10_fund, r9_X10_fund), (yX10_train, w9_X10_train, r9_X10_train))), (((yX10_undo, w9_X10_undo, r9_X10_undo), (yX10_save, w9_X10_save, r9_X10_save)), ((yX10_restore, w9_X10_restore, r9_X10_restore), (yX10_formatContracts, w9_X10_formatContracts, r9_X10_formatContracts)))))), ((((((yX10_outputByte, w9_X10_outputByte, r9_X10_outputByte), (yX10_requireEcho, w9_X10_requireEcho, r9_X10_requireEcho)), ((yX10_requireValley, w9_X10_requireValley, r9_X10_requireValley), (yX10_requirePair, w9_X10_requirePair, r9_X10_requirePair))), (((yX10_echoAt, w9_X10_echoAt, r9_X10_echoAt), (yX10_valleyAt, w9_X10_valleyAt, r9_X10_valleyAt)), ((yX10_adoptDraft, w9_X10_adoptDraft, r9_X10_adoptDraft), (yX10_noteErrors, w9_X10_noteErrors, r9_X10_noteErrors)))), ((((yX10_simulate, w9_X10_simulate, r9_X10_simulate), (yX10_letDaysPass, w9_X10_letDaysPass, r9_X10_letDaysPass)), ((yX10_perform, w9_X10_perform, r9_X10_perform), (yX10_writeContracts, w9_X10_writeContracts, r9_X10_writeContracts))), (((yX11_init, w9_X11_init, r9_X11_init), (yX0_init, [], r9_X0_init)), ((yX11_in, w9_X11_in, r9_X11_in), (yX11_truth, w9_X11_truth, r9_X11_truth))))), (((((yX11_passes, w9_X11_passes, r9_X11_passes), (yX11_passesBoth, w9_X11_passesBoth, r9_X11_passesBoth)), ((yX11_copies, w9_X11_copies, r9_X11_copies), (yX11_tries, w9_X11_tries, r9_X11_tries))), (((yX11_laidBack, w9_X11_laidBack, r9_X11_laidBack), (yX11_of, w9_X11_of, r9_X11_of)), ((yX11_puts, w9_X11_puts, r9_X11_puts), (yX11_ofValley, w9_X11_ofValley, r9_X11_ofValley)))), ((((yX11_putsValley, w9_X11_putsValley, r9_X11_putsValley), (yX11_pair, w9_X11_pair, r9_X11_pair)), ((yX11_isEcho, w9_X11_isEcho, r9_X11_isEcho), (yX11_isValley, w9_X11_isValley, r9_X11_isValley))), (((yX11_areBoth, w9_X11_areBoth, r9_X11_areBoth), (yX11_employer, w9_X11_employer, r9_X11_employer)), ((yX11_hasContract, w9_X11_hasContract, r9_X11_hasContract), (yX11_freePosts, w9_X11_freePosts, r9_X11_freePosts))))))), (((((((yX11_fogNow, w9_X11_fogNow, r9_X11_fogNow), (yX11_trueScore, w9_X11_trueScore, r9_X11_trueScore)), ((yX11_seen, w9_X11_seen, r9_X11_seen), (yX11_reasonOf, w9_X11_reasonOf, r9_X11_reasonOf))), (((yX11_isAcceptable, w9_X11_isAcceptable, r9_X11_isAcceptable), (yX11_isBetterValley, w9_X11_isBetterValley, r9_X11_isBetterValley)), ((yX11_isBetterEcho, w9_X11_isBetterEcho, r9_X11_isBetterEcho), (yX11_contractComes, w9_X11_contractComes, r9_X11_contractComes)))), ((((yX11_contractEnds, w9_X11_contractEnds, r9_X11_contractEnds), (yX11_enqueues, w9_X11_enqueues, r9_X11_enqueues)), ((yX11_dequeues, w9_X11_dequeues, r9_X11_dequeues), (yX11_nextValley, w9_X11_nextValley, r9_X11_nextValley))), (((yX11_leastKept, w9_X11_leastKept, r9_X11_leastKept), (yX11_applies, w9_X11_applies, r9_X11_applies)), ((yX11_startsFair, w9_X11_startsFair, r9_X11_startsFair), (yX11_isKept, w9_X11_isKept, r9_X11_isKept))))), (((((yX11_fairNow, w9_X11_fairNow, r9_X11_fairNow), (yX11_beginsSeason, w9_X11_beginsSeason, r9_X11_beginsSeason)), ((yX11_earns, w9_X11_earns, r9_X11_earns), (yX11_pays, w9_X11_pays, r9_X11_pays))), (((yX11_mayDesert, w9_X11_mayDesert, r9_X11_mayDesert), (yX11_dayOnce, w9_X11_dayOnce, r9_X11_dayOnce)), ((yX11_goBy, w9_X11_goBy, r9_X11_goBy), (yX11_allLeft, w9_X11_allLeft, r9_X11_allLeft)))), ((((yX11_passNow, w9_X11_passNow, r9_X11_passNow), (yX11_holdNow, w9_X11_holdNow, r9_X11_holdNow)), ((yX11_canTest, w9_X11_canTest, r9_X11_canTest), (yX11_testNow, w9_X11_testNow, r9_X11_testNow))), (((yX11_dismissNow, w9_X11_dismissNow, r9_X11_dismissNow), (yX11_wageNow, w9_X11_wageNow, r9_X11_wageNow)), ((yX11_fundNow, w9_X11_fundNow, r9_X11_fundNow), (yX11_canTrain, w9_X11_canTrain, r9_X11_canTrain)))))), ((((((yX11_trainNow, w9_X11_trainNow, r9_X11_trainNow), (yX11_four, w9_X11_four, r9_X11_four)), ((yX11_append, w9_X11_append, r9_X11_append), (yX11_truncate, w9_X11_truncate, r9_X11_truncate))), (((yX11_byteAt, w9_X11_byteAt, r9_X11_byteAt), (yX11_next, w9_X11_next, r9_X11_next)), ((yX11_must, w9_X11_must, r9_X11_must), (yX11_sees, w9_X11_sees, r9_X11_sees)))), ((((yX11_goesPast, w9_X11_goesPast, r9_X11_goesPast), (yX11_keyword, w9_X11_keyword, r9_X11_keyword)), ((yX11_semicolon, w9_X11_semicolon, r9_X11_semicolon), (yX11_number, w9_X11_number, r9_X11_number))), (((yX11_isNumberNext, w9_X11_isNumberNext, r9_X11_isNumberNext), (yX11_isName, w9_X11_isName, r9_X11_isName)), ((yX11_isNamed, w9_X11_isNamed, r9_X11_isNamed), (yX11_placeOf, w9_X11_placeOf, r9_X11_placeOf))))), (((((yX11_thingHere, w9_X11_thingHere, r9_X11_thingHere), (yX11_mustBe, w9_X11_mustBe, r9_X11_mustBe)), ((yX11_newName, w9_X11_newName, r9_X11_newName), (yX11_startsText, w9_X11_startsText, r9_X11_startsText))), (((yX11_endsText, w9_X11_endsText, r9_X11_endsText), (yX11_errorCode, w9_X11_errorCode, r9_X11_errorCode)), ((yX11_errorPosition, w9_X11_errorPosition, r9_X11_errorPosition), (yX11_fogLine, w9_X11_fogLine, r9_X11_fogLine)))), ((((yX11_echoLine, w9_X11_echoLine, r9_X11_echoLine), (yX11_valleyLine, w9_X11_valleyLine, r9_X11_valleyLine)), ((yX11_testedLine, w9_X11_testedLine, r9_X11_testedLine), (yX11_statement, w9_X11_statement, r9_X11_statement))), (((yX11_load, w9_X11_load, r9_X11_load), (yX11_otherCommand, w9_X11_otherCommand, r9_X11_otherCommand)), ((yX11_commandHere, w9_X11_commandHere, r9_X11_commandHere), (yX11_partsOf, w9_X11_partsOf, r9_X11_partsOf))))))))), (((((((((yX11_readsOne, w9_X11_readsOne, r9_X11_readsOne), (yX11_doesOne, w9_X11_doesOne, r9_X11_doesOne)), ((yX11_keeps, w9_X11_keeps, r9_X11_keeps), (yX11_executeCommands, w9_X11_executeCommands, r9_X11_executeCommands))), (((yX11_tells, w9_X11_tells, r9_X11_tells), (yX11_tellsEcho, w9_X11_tellsEcho, r9_X11_tellsEcho)), ((yX11_tellsValley, w9_X11_tellsValley, r9_X11_tellsValley), (yX11_echoCount, w9_X11_echoCount, r9_X11_echoCount)))), ((((yX11_valleyCount, w9_X11_valleyCount, r9_X11_valleyCount), (yX11_day, w9_X11_day, r9_X11_day)), ((yX11_seasonLength, w9_X11_seasonLength, r9_X11_seasonLength), (yX11_fogOf, w9_X11_fogOf, r9_X11_fogOf))), (((yX11_finds, w9_X11_finds, r9_X11_finds), (yX11_findEcho, w9_X11_findEcho, r9_X11_findEcho)), ((yX11_findValley, w9_X11_findValley, r9_X11_findValley), (yX11_delayOf, w9_X11_delayOf, r9_X11_delayOf))))), (((((yX11_repeatsOf, w9_X11_repeatsOf, r9_X11_repeatsOf), (yX11_reserveWage, w9_X11_reserveWage, r9_X11_reserveWage)), ((yX11_resistanceOf, w9_X11_resistanceOf, r9_X11_resistanceOf), (yX11_savingsOf, w9_X11_savingsOf, r9_X11_savingsOf))), (((yX11_unpaidDays, w9_X11_unpaidDays, r9_X11_unpaidDays), (yX11_employerOf, w9_X11_employerOf, r9_X11_employerOf)), ((yX11_widthOf, w9_X11_widthOf, r9_X11_widthOf), (yX11_postsOf, w9_X11_postsOf, r9_X11_postsOf)))), ((((yX11_wageOf, w9_X11_wageOf, r9_X11_wageOf), (yX11_purseOf, w9_X11_purseOf, r9_X11_purseOf)), ((yX11_staffCount, w9_X11_staffCount, r9_X11_staffCount), (yX11_staffMember, w9_X11_staffMember, r9_X11_staffMember))), (((yX11_isTested, w9_X11_isTested, r9_X11_isTested), (yX11_seenScore, w9_X11_seenScore, r9_X11_seenScore)), ((yX11_pairReason, w9_X11_pairReason, r9_X11_pairReason), (yX11_valleyAt, w9_X11_valleyAt, r9_X11_valleyAt)))))), ((((((yX11_preferredValley, w9_X11_preferredValley, r9_X11_preferredValley), (yX11_echoAt, w9_X11_echoAt, r9_X11_echoAt)), ((yX11_preferredEcho, w9_X11_preferredEcho, r9_X11_preferredEcho), (yX11_wouldLeave, w9_X11_wouldLeave, r9_X11_wouldLeave))), (((yX11_wouldTake, w9_X11_wouldTake, r9_X11_wouldTake), (yX11_isBlocking, w9_X11_isBlocking, r9_X11_isBlocking)), ((yX11_blockingPairs, w9_X11_blockingPairs, r9_X11_blockingPairs), (yX11_resultOf, w9_X11_resultOf, r9_X11_resultOf)))), ((((yX11_fairResult, w9_X11_fairResult, r9_X11_fairResult), (yX11_areDays, w9_X11_areDays, r9_X11_areDays)), ((yX11_savingsAfter, w9_X11_savingsAfter, r9_X11_savingsAfter), (yX11_purseAfter, w9_X11_purseAfter, r9_X11_purseAfter))), (((yX11_desertsIn, w9_X11_desertsIn, r9_X11_desertsIn), (yX11_leastWage, w9_X11_leastWage, r9_X11_leastWage)), ((yX11_bestTest, w9_X11_bestTest, r9_X11_bestTest), (yX11_richestEcho, w9_X11_richestEcho, r9_X11_richestEcho))))), (((((yX11_daysServed, w9_X11_daysServed, r9_X11_daysServed), (yX11_contractsMade, w9_X11_contractsMade, r9_X11_contractsMade)), ((yX11_contractsEnded, w9_X11_contractsEnded, r9_X11_contractsEnded), (yX11_desertions, w9_X11_desertions, r9_X11_desertions))), (((yX11_repliesHeard, w9_X11_repliesHeard, r9_X11_repliesHeard), (yX11_wagesPaid, w9_X11_wagesPaid, r9_X11_wagesPaid)), ((yX11_savings, w9_X11_savings, r9_X11_savings), (yX11_purses, w9_X11_purses, r9_X11_purses)))), ((((yX11_contracts, w9_X11_contracts, r9_X11_contracts), (yX11_moneyImbalance, w9_X11_moneyImbalance, r9_X11_moneyImbalance)), ((yX11_contractImbalance, w9_X11_contractImbalance, r9_X11_contractImbalance), (yX11_servedBy, w9_X11_servedBy, r9_X11_servedBy))), (((yX11_doubleServants, w9_X11_doubleServants, r9_X11_doubleServants), (yX11_meanSavings, w9_X11_meanSavings, r9_X11_meanSavings)), ((yX11_employmentRate, w9_X11_employmentRate, r9_X11_employmentRate), (yX11_tried, w9_X11_tried, r9_X11_tried))))))), (((((((yX11_done, w9_X11_done, r9_X11_done), (yX11_passDays, w9_X11_passDays, r9_X11_passDays)), ((yX11_holdFair, w9_X11_holdFair, r9_X11_holdFair), (yX11_test, w9_X11_test, r9_X11_test))), (((yX11_dismiss, w9_X11_dismiss, r9_X11_dismiss), (yX11_setWage, w9_X11_setWage, r9_X11_setWage)), ((yX11_fund, w9_X11_fund, r9_X11_fund), (yX11_train, w9_X11_train, r9_X11_train)))), ((((yX11_undo, w9_X11_undo, r9_X11_undo), (yX11_save, w9_X11_save, r9_X11_save)), ((yX11_restore, w9_X11_restore, r9_X11_restore), (yX11_writes, w9_X11_writes, r9_X11_writes))), (((yX11_writesName, w9_X11_writesName, r9_X11_writesName), (yX11_formatContracts, w9_X11_formatContracts, r9_X11_formatContracts)), ((yX11_outputByte, w9_X11_outputByte, r9_X11_outputByte), (yJ9_floorMod_7cf53, w9_J9_floorMod_7cf53, r9_J9_floorMod_7cf53))))), (((((yJ9_abs_0f7a4, w9_J9_abs_0f7a4, r9_J9_abs_0f7a4), (yJ9_max_7cf53, w9_J9_max_7cf53, r9_J9_max_7cf53)), ((yJ0_length_8abf5, w9_J0_length_8abf5, r9_J0_length_8abf5), (yJ0_charAt_5068e, w9_J0_charAt_5068e, r9_J0_charAt_5068e))), (((yJ0_coder_7d493, w9_J0_coder_7d493, r9_J0_coder_7d493), (yJ0_isLatin1_aae02, w9_J0_isLatin1_aae02, r9_J0_isLatin1_aae02)), ((yJ0_checkIndex_df160, w9_J0_checkIndex_df160, r9_J0_checkIndex_df160), (yJ1_charAt_3b067, w9_J1_charAt_3b067, r9_J1_charAt_3b067)))), ((((yJ3_checkIndex_8e157, w9_J3_checkIndex_8e157, r9_J3_checkIndex_8e157), (yL_append, w9_L_append, r9_L_append)), ((yL_truncate, w9_L_truncate, r9_L_truncate), (yL_load, w9_L_load, r9_L_load))), (((yL_executeCommands, w9_L_executeCommands, r9_L_executeCommands), (yL_fogOf, w9_L_fogOf, r9_L_fogOf)), ((yL_delayOf, w9_L_delayOf, r9_L_delayOf), (yL_repeatsOf, w9_L_repeatsOf, r9_L_repeatsOf)))))), ((((((yL_reserveWage, w9_L_reserveWage, r9_L_reserveWage), (yL_resistanceOf, w9_L_resistanceOf, r9_L_resistanceOf)), ((yL_savingsOf, w9_L_savingsOf, r9_L_savingsOf), (yL_unpaidDays, w9_L_unpaidDays, r9_L_unpaidDays))), (((yL_employerOf, w9_L_employerOf, r9_L_employerOf), (yL_widthOf, w9_L_widthOf, r9_L_widthOf)), ((yL_postsOf, w9_L_postsOf, r9_L_postsOf), (yL_wageOf, w9_L_wageOf, r9_L_wageOf)))), ((((yL_purseOf, w9_L_purseOf, r9_L_purseOf), (yL_staffCount, w9_L_staffCount, r9_L_staffCount)), ((yL_staffMember, w9_L_staffMember, r9_L_staffMember), (yL_isTested, w9_L_isTested, r9_L_isTested))), (((yL_seenScore, w9_L_seenScore, r9_L_seenScore), (yL_pairReason, w9_L_pairReason, r9_L_pairReason)), ((yL_preferredValley, w9_L_preferredValley, r9_L_preferredValley), (yL_preferredEcho, w9_L_preferredEcho, r9_L_preferredEcho))))), (((((yL_fairResult, w9_L_fairResult, r9_L_fairResult), (yL_savingsAfter, w9_L_savingsAfter, r9_L_savingsAfter)), ((yL_purseAfter, w9_L_purseAfter, r9_L_purseAfter), (yL_desertsIn, w9_L_desertsIn, r9_L_desertsIn))), (((yL_leastWage, w9_L_leastWage, r9_L_leastWage), (yL_bestTest, w9_L_bestTest, r9_L_bestTest)), ((yL_daysServed, w9_L_daysServed, r9_L_daysServed), (yL_desertions, w9_L_desertions, r9_L_desertions)))), ((((yL_repliesHeard, w9_L_repliesHeard, r9_L_repliesHeard), (yL_wagesPaid, w9_L_wagesPaid, r9_L_wagesPaid)), ((yL_passDays, w9_L_passDays, r9_L_passDays), (yL_test, w9_L_test, r9_L_test))), (((yL_dismiss, w9_L_dismiss, r9_L_dismiss), (yL_setWage, w9_L_setWage, r9_L_setWage)), ((yL_fund, w9_L_fund, r9_L_fund), (yL_train, w9_L_train, r9_L_train)))))))), ((((((((yL_undo, w9_L_undo, r9_L_undo), (yL_restore, w9_L_restore, r9_L_restore)), ((yX0_init, [], r9_X0_init), (yX0_init, [], r9_X0_init))), (((yX0_init, [], r9_X0_init), (yX0_init, [], r9_X0_init)), ((yX0_init, [], r9_X0_init), (yX0_init, [], r9_X0_init)))), ((((yX0_init, [], r9_X0_init), (yX0_init, [], r9_X0_init)), ((yX0_init, [], r9_X0_init), (yX0_init, [], r9_X0_init))), (((yX0_init, [], r9_X0_init), (yX0_init, [], r9_X0_init)), ((yX0_init, [], r9_X0_init), (yX0_init, [], r9_X0_init))))), (((((yX0_init, [], r9_X0_init), (yX0_init, [], r9_X0_init)), ((yX0_init, [], r9_X0_init), (yX0_init, [], r9_X0_init))), (((yX0_init, [], r9_X0_init), (yX0_init, [], r9_X0_init)), ((yX0_init, [], r9_X0_init), (yX0_init, [], r9_X0_init)))), ((((yX0_init, [], r9_X0_init), (yX0_init, [], r9_X0_init)), ((yX0_init, [], r9_X0_init), (yX0_init, [], r9_X0_init))), (((yX0_init, [], r9_X0_init), (yX0_init, [], r9_X0_init)), ((yX0_init, [], r9_X0_init), (yX0_init, [], r9_X0_init)))))), ((((((yX0_init, [], r9_X0_init), (yX0_init, [], r9_X0_init)), ((yX0_init, [], r9_X0_init), (yX0_init, [], r9_X0_init))), (((yX0_init, [], r9_X0_init), (yX0_init, [], r9_X0_init)), ((yX0_init, [], r9_X0_init), (yX0_init, [], r9_X0_init)))), ((((yX0_init, [], r9_X0_init), (yX0_init, [], r9_X0_init)), ((yX0_init, [], r9_X0_init), (yX0_init, [], r9_X0_init))), (((yX0_init, [], r9_X0_init), (yX0_init, [], r9_X0_init)), ((yX0_init, [], r9_X0_init), (yX0_init, [], r9_X0_init))))), (((((yX0_init, [], r9_X0_init), (yX0_init, [], r9_X0_init)), ((yX0_init, [], r9_X0_init), (yX0_init, [], r9_X0_init))), (((yX0_init, [], r9_X0_init), (yX0_init, [], r9_X0_init)), ((yX0_init, [], r9_X0_init), (yX0_init, [], r9_X0_init)))), ((((yX0_init, [], r9_X0_init), (yX0_init, [], r9_X0_init)), ((yX0_init, [], r9_X0_init), (yX0_init, [], r9_X0_init))), (((yX0_init, [], r9_X0_init), (yX0_init, [], r9_X0_init)), ((yX0_init, [], r9_X0_init), (yX0_init, [], r9_X0_init))))))), (((((((yX0_init, [], r9_X0_init), (yX0_init, [], r9_X0_init)), ((yX0_init, [], r9_X0_init), (yX0_init, [], r9_X0_init))), (((yX0_init, [], r9_X0_init), (yX0_init, [], r9_X0_init)), ((yX0_init, [], r9_X0_init), (yX0_init, [], r9_X0_init)))), ((((yX0_init, [], r9_X0_init), (yX0_init, [], r9_X0_init)), ((yX0_init, [], r9_X0_init), (yX0_init, [], r9_X0_init))), (((yX0_init, [], r9_X0_init), (yX0_init, [], r9_X0_init)), ((yX0_init, [], r9_X0_init), (yX0_init, [], r9_X0_init))))), (((((yX0_init, [], r9_X0_init), (yX0_init, [], r9_X0_init)), ((yX0_init, [], r9_X0_init), (yX0_init, [], r9_X0_init))), (((yX0_init, [], r9_X0_init), (yX0_init, [], r9_X0_init)), ((yX0_init, [], r9_X0_init), (yX0_init, [], r9_X0_init)))), ((((yX0_init, [], r9_X0_init), (yX0_init, [], r9_X0_init)), ((yX0_init, [], r9_X0_init), (yX0_init, [], r9_X0_init))), (((yX0_init, [], r9_X0_init), (yX0_init, [], r9_X0_init)), ((yX0_init, [], r9_X0_init), (yX0_init, [], r9_X0_init)))))), ((((((yX0_init, [], r9_X0_init), (yX0_init, [], r9_X0_init)), ((yX0_init, [], r9_X0_init), (yX0_init, [], r9_X0_init))), (((yX0_init, [], r9_X0_init), (yX0_init, [], r9_X0_init)), ((yX0_init, [], r9_X0_init), (yX0_init, [], r9_X0_init)))), ((((yX0_init, [], r9_X0_init), (yX0_init, [], r9_X0_init)), ((yX0_init, [], r9_X0_init), (yX0_init, [], r9_X0_init))), (((yX0_init, [], r9_X0_init), (yX0_init, [], r9_X0_init)), ((yX0_init, [], r9_X0_init), (yX0_init, [], r9_X0_init))))), (((((yX0_init, [], r9_X0_init), (yX0_init, [], r9_X0_init)), ((yX0_init, [], r9_X0_init), (yX0_init, [], r9_X0_init))), (((yX0_init, [], r9_X0_init), (yX0_init, [], r9_X0_init)), ((yX0_init, [], r9_X0_init), (yX0_init, [], r9_X0_init)))), ((((yX0_init, [], r9_X0_init), (yX0_init, [], r9_X0_init)), ((yX0_init, [], r9_X0_init), (yX0_init, [], r9_X0_init))), (((yX0_init, [], r9_X0_init), (yX0_init, [], r9_X0_init)), ((yX0_init, [], r9_X0_init), (yX0_init, [], r9_X0_init))))))))))
noncomputable def infT : Inf := fun y => tget 9 infTr y
theorem ic_X0_init {l : Launch} {D : va_G} {G : Gam} {A : Nat → Prop} {call : Call} (h : CallOK l D G A infT call) : ∀ E n as M rs, call 0 E n as M = some rs → MOK l D G A yX0_init w9_X0_init r9_X0_init E n as M rs := h 0
theorem ic_X0_add {l : Launch} {D : va_G} {G : Gam} {A : Nat → Prop} {call : Call} (h : CallOK l D G A infT call) : ∀ E n as M rs, call 1 E n as M = some rs → MOK l D G A yX0_add w9_X0_add r9_X0_add E n as M rs := h 1
theorem ic_X0_addInt {l : Launch} {D : va_G} {G : Gam} {A : Nat → Prop} {call : Call} (h : CallOK l D G A infT call) : ∀ E n as M rs, call 2 E n as M = some rs → MOK l D G A yX0_addInt w9_X0_addInt r9_X0_addInt E n as M rs := h 2
theorem ic_X0_addName {l : Launch} {D : va_G} {G : Gam} {A : Nat → Prop} {call : Call} (h : CallOK l D G A infT call) : ∀ E n as M rs, call 3 E n as M = some rs → MOK l D G A yX0_addName w9_X0_addName r9_X0_addName E n as M rs := h 3
theorem ic_X0_byteAt {l : Launch} {D : va_G} {G : Gam} {A : Nat → Prop} {call : Call} (h : CallOK l D G A infT call) : ∀ E n as M rs, call 4 E n as M = some rs → MOK l D G A yX0_byteAt w9_X0_byteAt r9_X0_byteAt E n as M rs := h 4
theorem ic_X0_nameAt {l : Launch} {D : va_G} {G : Gam} {A : Nat → Prop} {call : Call} (h : CallOK l D G A infT call) : ∀ E n as M rs, call 5 E n as M = some rs → MOK l D G A yX0_nameAt w9_X0_nameAt r9_X0_nameAt E n as M rs := h 5
theorem ic_X1_init {l : Launch} {D : va_G} {G : Gam} {A : Nat → Prop} {call : Call} (h : CallOK l D G A infT call) : ∀ E n as M rs, call 6 E n as M = some rs → MOK l D G A yX1_init w9_X1_init r9_X1_init E n as M rs := h 6
theorem ic_X1_parse {l : Launch} {D : va_G} {G : Gam} {A : Nat → Prop} {call : Call} (h : CallOK l D G A infT call) : ∀ E n as M rs, call 7 E n as M = some rs → MOK l D G A yX1_parse w9_X1_parse r9_X1_parse E n as M rs := h 7
theorem ic_X1_verbRead {l : Launch} {D : va_G} {G : Gam} {A : Nat → Prop} {call : Call} (h : CallOK l D G A infT call) : ∀ E n as M rs, call 8 E n as M = some rs → MOK l D G A yX1_verbRead w9_X1_verbRead r9_X1_verbRead E n as M rs := h 8
theorem ic_X1_takeParameters {l : Launch} {D : va_G} {G : Gam} {A : Nat → Prop} {call : Call} (h : CallOK l D G A infT call) : ∀ E n as M rs, call 9 E n as M = some rs → MOK l D G A yX1_takeParameters w9_X1_takeParameters r9_X1_takeParameters E n as M rs := h 9
theorem ic_X1_takeValleyAndMore {l : Launch} {D : va_G} {G : Gam} {A : Nat → Prop} {call : Call} (h : CallOK l D G A infT call) : ∀ E n as M rs, call 10 E n as M = some rs → MOK l D G A yX1_takeValleyAndMore w9_X1_takeValleyAndMore r9_X1_takeValleyAndMore E n as M rs := h 10
theorem ic_X2_init {l : Launch} {D : va_G} {G : Gam} {A : Nat → Prop} {call : Call} (h : CallOK l D G A infT call) : ∀ E n as M rs, call 11 E n as M = some rs → MOK l D G A yX2_init w9_X2_init r9_X2_init E n as M rs := h 11
theorem ic_X2_parse {l : Launch} {D : va_G} {G : Gam} {A : Nat → Prop} {call : Call} (h : CallOK l D G A infT call) : ∀ E n as M rs, call 12 E n as M = some rs → MOK l D G A yX2_parse w9_X2_parse r9_X2_parse E n as M rs := h 12
theorem ic_X2_isComplete {l : Launch} {D : va_G} {G : Gam} {A : Nat → Prop} {call : Call} (h : CallOK l D G A infT call) : ∀ E n as M rs, call 13 E n as M = some rs → MOK l D G A yX2_isComplete w9_X2_isComplete r9_X2_isComplete E n as M rs := h 13
theorem ic_X2_takeSeason {l : Launch} {D : va_G} {G : Gam} {A : Nat → Prop} {call : Call} (h : CallOK l D G A infT call) : ∀ E n as M rs, call 14 E n as M = some rs → MOK l D G A yX2_takeSeason w9_X2_takeSeason r9_X2_takeSeason E n as M rs := h 14
theorem ic_X2_takeFog {l : Launch} {D : va_G} {G : Gam} {A : Nat → Prop} {call : Call} (h : CallOK l D G A infT call) : ∀ E n as M rs, call 15 E n as M = some rs → MOK l D G A yX2_takeFog w9_X2_takeFog r9_X2_takeFog E n as M rs := h 15
theorem ic_X2_takeStatement {l : Launch} {D : va_G} {G : Gam} {A : Nat → Prop} {call : Call} (h : CallOK l D G A infT call) : ∀ E n as M rs, call 16 E n as M = some rs → MOK l D G A yX2_takeStatement w9_X2_takeStatement r9_X2_takeStatement E n as M rs := h 16
theorem ic_X2_takeNewEcho {l : Launch} {D : va_G} {G : Gam} {A : Nat → Prop} {call : Call} (h : CallOK l D G A infT call) : ∀ E n as M rs, call 17 E n as M = some rs → MOK l D G A yX2_takeNewEcho w9_X2_takeNewEcho r9_X2_takeNewEcho E n as M rs := h 17
theorem ic_X2_takeNewValley {l : Launch} {D : va_G} {G : Gam} {A : Nat → Prop} {call : Call} (h : CallOK l D G A infT call) : ∀ E n as M rs, call 18 E n as M = some rs → MOK l D G A yX2_takeNewValley w9_X2_takeNewValley r9_X2_takeNewValley E n as M rs := h 18
theorem ic_X2_takeTest {l : Launch} {D : va_G} {G : Gam} {A : Nat → Prop} {call : Call} (h : CallOK l D G A infT call) : ∀ E n as M rs, call 19 E n as M = some rs → MOK l D G A yX2_takeTest w9_X2_takeTest r9_X2_takeTest E n as M rs := h 19
theorem ic_X3_init {l : Launch} {D : va_G} {G : Gam} {A : Nat → Prop} {call : Call} (h : CallOK l D G A infT call) : ∀ E n as M rs, call 20 E n as M = some rs → MOK l D G A yX3_init w9_X3_init r9_X3_init E n as M rs := h 20
theorem ic_X3_start {l : Launch} {D : va_G} {G : Gam} {A : Nat → Prop} {call : Call} (h : CallOK l D G A infT call) : ∀ E n as M rs, call 21 E n as M = some rs → MOK l D G A yX3_start w9_X3_start r9_X3_start E n as M rs := h 21
theorem ic_X3_copyFrom {l : Launch} {D : va_G} {G : Gam} {A : Nat → Prop} {call : Call} (h : CallOK l D G A infT call) : ∀ E n as M rs, call 22 E n as M = some rs → MOK l D G A yX3_copyFrom w9_X3_copyFrom r9_X3_copyFrom E n as M rs := h 22
theorem ic_X3_lessonPrice {l : Launch} {D : va_G} {G : Gam} {A : Nat → Prop} {call : Call} (h : CallOK l D G A infT call) : ∀ E n as M rs, call 23 E n as M = some rs → MOK l D G A yX3_lessonPrice w9_X3_lessonPrice r9_X3_lessonPrice E n as M rs := h 23
theorem ic_X3_canLearn {l : Launch} {D : va_G} {G : Gam} {A : Nat → Prop} {call : Call} (h : CallOK l D G A infT call) : ∀ E n as M rs, call 24 E n as M = some rs → MOK l D G A yX3_canLearn w9_X3_canLearn r9_X3_canLearn E n as M rs := h 24
theorem ic_X3_leavesIn {l : Launch} {D : va_G} {G : Gam} {A : Nat → Prop} {call : Call} (h : CallOK l D G A infT call) : ∀ E n as M rs, call 25 E n as M = some rs → MOK l D G A yX3_leavesIn w9_X3_leavesIn r9_X3_leavesIn E n as M rs := h 25
theorem ic_X4_init {l : Launch} {D : va_G} {G : Gam} {A : Nat → Prop} {call : Call} (h : CallOK l D G A infT call) : ∀ E n as M rs, call 26 E n as M = some rs → MOK l D G A yX4_init w9_X4_init r9_X4_init E n as M rs := h 26
theorem ic_X4_push {l : Launch} {D : va_G} {G : Gam} {A : Nat → Prop} {call : Call} (h : CallOK l D G A infT call) : ∀ E n as M rs, call 27 E n as M = some rs → MOK l D G A yX4_push w9_X4_push r9_X4_push E n as M rs := h 27
theorem ic_X4_pop {l : Launch} {D : va_G} {G : Gam} {A : Nat → Prop} {call : Call} (h : CallOK l D G A infT call) : ∀ E n as M rs, call 28 E n as M = some rs → MOK l D G A yX4_pop w9_X4_pop r9_X4_pop E n as M rs := h 28
theorem ic_X5_init {l : Launch} {D : va_G} {G : Gam} {A : Nat → Prop} {call : Call} (h : CallOK l D G A infT call) : ∀ E n as M rs, call 29 E n as M = some rs → MOK l D G A yX5_init w9_X5_init r9_X5_init E n as M rs := h 29
theorem ic_X5_hold {l : Launch} {D : va_G} {G : Gam} {A : Nat → Prop} {call : Call} (h : CallOK l D G A infT call) : ∀ E n as M rs, call 30 E n as M = some rs → MOK l D G A yX5_hold w9_X5_hold r9_X5_hold E n as M rs := h 30
theorem ic_X5_enrol {l : Launch} {D : va_G} {G : Gam} {A : Nat → Prop} {call : Call} (h : CallOK l D G A infT call) : ∀ E n as M rs, call 31 E n as M = some rs → MOK l D G A yX5_enrol w9_X5_enrol r9_X5_enrol E n as M rs := h 31
theorem ic_X5_weigh {l : Launch} {D : va_G} {G : Gam} {A : Nat → Prop} {call : Call} (h : CallOK l D G A infT call) : ∀ E n as M rs, call 32 E n as M = some rs → MOK l D G A yX5_weigh w9_X5_weigh r9_X5_weigh E n as M rs := h 32
theorem ic_X5_enqueue {l : Launch} {D : va_G} {G : Gam} {A : Nat → Prop} {call : Call} (h : CallOK l D G A infT call) : ∀ E n as M rs, call 33 E n as M = some rs → MOK l D G A yX5_enqueue w9_X5_enqueue r9_X5_enqueue E n as M rs := h 33
theorem ic_X5_favourite {l : Launch} {D : va_G} {G : Gam} {A : Nat → Prop} {call : Call} (h : CallOK l D G A infT call) : ∀ E n as M rs, call 34 E n as M = some rs → MOK l D G A yX5_favourite w9_X5_favourite r9_X5_favourite E n as M rs := h 34
theorem ic_X5_apply {l : Launch} {D : va_G} {G : Gam} {A : Nat → Prop} {call : Call} (h : CallOK l D G A infT call) : ∀ E n as M rs, call 35 E n as M = some rs → MOK l D G A yX5_apply w9_X5_apply r9_X5_apply E n as M rs := h 35
theorem ic_X5_leastKept {l : Launch} {D : va_G} {G : Gam} {A : Nat → Prop} {call : Call} (h : CallOK l D G A infT call) : ∀ E n as M rs, call 36 E n as M = some rs → MOK l D G A yX5_leastKept w9_X5_leastKept r9_X5_leastKept E n as M rs := h 36
theorem ic_X5_prefers {l : Launch} {D : va_G} {G : Gam} {A : Nat → Prop} {call : Call} (h : CallOK l D G A infT call) : ∀ E n as M rs, call 37 E n as M = some rs → MOK l D G A yX5_prefers w9_X5_prefers r9_X5_prefers E n as M rs := h 37
theorem ic_X5_sign {l : Launch} {D : va_G} {G : Gam} {A : Nat → Prop} {call : Call} (h : CallOK l D G A infT call) : ∀ E n as M rs, call 38 E n as M = some rs → MOK l D G A yX5_sign w9_X5_sign r9_X5_sign E n as M rs := h 38
theorem ic_X6_init {l : Launch} {D : va_G} {G : Gam} {A : Nat → Prop} {call : Call} (h : CallOK l D G A infT call) : ∀ E n as M rs, call 39 E n as M = some rs → MOK l D G A yX6_init w9_X6_init r9_X6_init E n as M rs := h 39
theorem ic_X6_copyFrom {l : Launch} {D : va_G} {G : Gam} {A : Nat → Prop} {call : Call} (h : CallOK l D G A infT call) : ∀ E n as M rs, call 40 E n as M = some rs → MOK l D G A yX6_copyFrom w9_X6_copyFrom r9_X6_copyFrom E n as M rs := h 40
theorem ic_X6_startsOn {l : Launch} {D : va_G} {G : Gam} {A : Nat → Prop} {call : Call} (h : CallOK l D G A infT call) : ∀ E n as M rs, call 41 E n as M = some rs → MOK l D G A yX6_startsOn w9_X6_startsOn r9_X6_startsOn E n as M rs := h 41
theorem ic_X6_fogOn {l : Launch} {D : va_G} {G : Gam} {A : Nat → Prop} {call : Call} (h : CallOK l D G A infT call) : ∀ E n as M rs, call 42 E n as M = some rs → MOK l D G A yX6_fogOn w9_X6_fogOn r9_X6_fogOn E n as M rs := h 42
theorem ic_X6_addLevel {l : Launch} {D : va_G} {G : Gam} {A : Nat → Prop} {call : Call} (h : CallOK l D G A infT call) : ∀ E n as M rs, call 43 E n as M = some rs → MOK l D G A yX6_addLevel w9_X6_addLevel r9_X6_addLevel E n as M rs := h 43
theorem ic_X7_init {l : Launch} {D : va_G} {G : Gam} {A : Nat → Prop} {call : Call} (h : CallOK l D G A infT call) : ∀ E n as M rs, call 44 E n as M = some rs → MOK l D G A yX7_init w9_X7_init r9_X7_init E n as M rs := h 44
theorem ic_X7_begin {l : Launch} {D : va_G} {G : Gam} {A : Nat → Prop} {call : Call} (h : CallOK l D G A infT call) : ∀ E n as M rs, call 45 E n as M = some rs → MOK l D G A yX7_begin w9_X7_begin r9_X7_begin E n as M rs := h 45
theorem ic_X7_fail {l : Launch} {D : va_G} {G : Gam} {A : Nat → Prop} {call : Call} (h : CallOK l D G A infT call) : ∀ E n as M rs, call 46 E n as M = some rs → MOK l D G A yX7_fail w9_X7_fail r9_X7_fail E n as M rs := h 46
theorem ic_X7_kindOf {l : Launch} {D : va_G} {G : Gam} {A : Nat → Prop} {call : Call} (h : CallOK l D G A infT call) : ∀ E n as M rs, call 47 E n as M = some rs → MOK l D G A yX7_kindOf w9_X7_kindOf r9_X7_kindOf E n as M rs := h 47
theorem ic_X7_next {l : Launch} {D : va_G} {G : Gam} {A : Nat → Prop} {call : Call} (h : CallOK l D G A infT call) : ∀ E n as M rs, call 48 E n as M = some rs → MOK l D G A yX7_next w9_X7_next r9_X7_next E n as M rs := h 48
theorem ic_X7_wordIs {l : Launch} {D : va_G} {G : Gam} {A : Nat → Prop} {call : Call} (h : CallOK l D G A infT call) : ∀ E n as M rs, call 49 E n as M = some rs → MOK l D G A yX7_wordIs w9_X7_wordIs r9_X7_wordIs E n as M rs := h 49
theorem ic_X7_name {l : Launch} {D : va_G} {G : Gam} {A : Nat → Prop} {call : Call} (h : CallOK l D G A infT call) : ∀ E n as M rs, call 50 E n as M = some rs → MOK l D G A yX7_name w9_X7_name r9_X7_name E n as M rs := h 50
theorem ic_X7_takeWord {l : Launch} {D : va_G} {G : Gam} {A : Nat → Prop} {call : Call} (h : CallOK l D G A infT call) : ∀ E n as M rs, call 51 E n as M = some rs → MOK l D G A yX7_takeWord w9_X7_takeWord r9_X7_takeWord E n as M rs := h 51
theorem ic_X7_takeSemicolon {l : Launch} {D : va_G} {G : Gam} {A : Nat → Prop} {call : Call} (h : CallOK l D G A infT call) : ∀ E n as M rs, call 52 E n as M = some rs → MOK l D G A yX7_takeSemicolon w9_X7_takeSemicolon r9_X7_takeSemicolon E n as M rs := h 52
theorem ic_X7_isName {l : Launch} {D : va_G} {G : Gam} {A : Nat → Prop} {call : Call} (h : CallOK l D G A infT call) : ∀ E n as M rs, call 53 E n as M = some rs → MOK l D G A yX7_isName w9_X7_isName r9_X7_isName E n as M rs := h 53
theorem ic_X7_takeName {l : Launch} {D : va_G} {G : Gam} {A : Nat → Prop} {call : Call} (h : CallOK l D G A infT call) : ∀ E n as M rs, call 54 E n as M = some rs → MOK l D G A yX7_takeName w9_X7_takeName r9_X7_takeName E n as M rs := h 54
theorem ic_X7_takeNumber {l : Launch} {D : va_G} {G : Gam} {A : Nat → Prop} {call : Call} (h : CallOK l D G A infT call) : ∀ E n as M rs, call 55 E n as M = some rs → MOK l D G A yX7_takeNumber w9_X7_takeNumber r9_X7_takeNumber E n as M rs := h 55
theorem ic_X7_checkNumber {l : Launch} {D : va_G} {G : Gam} {A : Nat → Prop} {call : Call} (h : CallOK l D G A infT call) : ∀ E n as M rs, call 56 E n as M = some rs → MOK l D G A yX7_checkNumber w9_X7_checkNumber r9_X7_checkNumber E n as M rs := h 56
theorem ic_X7_takeEcho {l : Launch} {D : va_G} {G : Gam} {A : Nat → Prop} {call : Call} (h : CallOK l D G A infT call) : ∀ E n as M rs, call 57 E n as M = some rs → MOK l D G A yX7_takeEcho w9_X7_takeEcho r9_X7_takeEcho E n as M rs := h 57
theorem ic_X7_takeValley {l : Launch} {D : va_G} {G : Gam} {A : Nat → Prop} {call : Call} (h : CallOK l D G A infT call) : ∀ E n as M rs, call 58 E n as M = some rs → MOK l D G A yX7_takeValley w9_X7_takeValley r9_X7_takeValley E n as M rs := h 58
theorem ic_X8_init {l : Launch} {D : va_G} {G : Gam} {A : Nat → Prop} {call : Call} (h : CallOK l D G A infT call) : ∀ E n as M rs, call 59 E n as M = some rs → MOK l D G A yX8_init w9_X8_init r9_X8_init E n as M rs := h 59
theorem ic_X8_start {l : Launch} {D : va_G} {G : Gam} {A : Nat → Prop} {call : Call} (h : CallOK l D G A infT call) : ∀ E n as M rs, call 60 E n as M = some rs → MOK l D G A yX8_start w9_X8_start r9_X8_start E n as M rs := h 60
theorem ic_X8_copyFrom {l : Launch} {D : va_G} {G : Gam} {A : Nat → Prop} {call : Call} (h : CallOK l D G A infT call) : ∀ E n as M rs, call 61 E n as M = some rs → MOK l D G A yX8_copyFrom w9_X8_copyFrom r9_X8_copyFrom E n as M rs := h 61
theorem ic_X8_hasTested {l : Launch} {D : va_G} {G : Gam} {A : Nat → Prop} {call : Call} (h : CallOK l D G A infT call) : ∀ E n as M rs, call 62 E n as M = some rs → MOK l D G A yX8_hasTested w9_X8_hasTested r9_X8_hasTested E n as M rs := h 62
theorem ic_X8_noteTest {l : Launch} {D : va_G} {G : Gam} {A : Nat → Prop} {call : Call} (h : CallOK l D G A infT call) : ∀ E n as M rs, call 63 E n as M = some rs → MOK l D G A yX8_noteTest w9_X8_noteTest r9_X8_noteTest E n as M rs := h 63
theorem ic_X8_hasLost {l : Launch} {D : va_G} {G : Gam} {A : Nat → Prop} {call : Call} (h : CallOK l D G A infT call) : ∀ E n as M rs, call 64 E n as M = some rs → MOK l D G A yX8_hasLost w9_X8_hasLost r9_X8_hasLost E n as M rs := h 64
theorem ic_X8_hasFreePost {l : Launch} {D : va_G} {G : Gam} {A : Nat → Prop} {call : Call} (h : CallOK l D G A infT call) : ∀ E n as M rs, call 65 E n as M = some rs → MOK l D G A yX8_hasFreePost w9_X8_hasFreePost r9_X8_hasFreePost E n as M rs := h 65
theorem ic_X8_hire {l : Launch} {D : va_G} {G : Gam} {A : Nat → Prop} {call : Call} (h : CallOK l D G A infT call) : ∀ E n as M rs, call 66 E n as M = some rs → MOK l D G A yX8_hire w9_X8_hire r9_X8_hire E n as M rs := h 66
theorem ic_X8_release {l : Launch} {D : va_G} {G : Gam} {A : Nat → Prop} {call : Call} (h : CallOK l D G A infT call) : ∀ E n as M rs, call 67 E n as M = some rs → MOK l D G A yX8_release w9_X8_release r9_X8_release E n as M rs := h 67
theorem ic_X9_init {l : Launch} {D : va_G} {G : Gam} {A : Nat → Prop} {call : Call} (h : CallOK l D G A infT call) : ∀ E n as M rs, call 68 E n as M = some rs → MOK l D G A yX9_init w9_X9_init r9_X9_init E n as M rs := h 68
theorem ic_X9_clear {l : Launch} {D : va_G} {G : Gam} {A : Nat → Prop} {call : Call} (h : CallOK l D G A infT call) : ∀ E n as M rs, call 69 E n as M = some rs → MOK l D G A yX9_clear w9_X9_clear r9_X9_clear E n as M rs := h 69
theorem ic_X9_copyFrom {l : Launch} {D : va_G} {G : Gam} {A : Nat → Prop} {call : Call} (h : CallOK l D G A infT call) : ∀ E n as M rs, call 70 E n as M = some rs → MOK l D G A yX9_copyFrom w9_X9_copyFrom r9_X9_copyFrom E n as M rs := h 70
theorem ic_X9_echoNamed {l : Launch} {D : va_G} {G : Gam} {A : Nat → Prop} {call : Call} (h : CallOK l D G A infT call) : ∀ E n as M rs, call 71 E n as M = some rs → MOK l D G A yX9_echoNamed w9_X9_echoNamed r9_X9_echoNamed E n as M rs := h 71
theorem ic_X9_valleyNamed {l : Launch} {D : va_G} {G : Gam} {A : Nat → Prop} {call : Call} (h : CallOK l D G A infT call) : ∀ E n as M rs, call 72 E n as M = some rs → MOK l D G A yX9_valleyNamed w9_X9_valleyNamed r9_X9_valleyNamed E n as M rs := h 72
theorem ic_X9_trueScore {l : Launch} {D : va_G} {G : Gam} {A : Nat → Prop} {call : Call} (h : CallOK l D G A infT call) : ∀ E n as M rs, call 73 E n as M = some rs → MOK l D G A yX9_trueScore w9_X9_trueScore r9_X9_trueScore E n as M rs := h 73
theorem ic_X9_scoreSeen {l : Launch} {D : va_G} {G : Gam} {A : Nat → Prop} {call : Call} (h : CallOK l D G A infT call) : ∀ E n as M rs, call 74 E n as M = some rs → MOK l D G A yX9_scoreSeen w9_X9_scoreSeen r9_X9_scoreSeen E n as M rs := h 74
theorem ic_X9_reasonAt {l : Launch} {D : va_G} {G : Gam} {A : Nat → Prop} {call : Call} (h : CallOK l D G A infT call) : ∀ E n as M rs, call 75 E n as M = some rs → MOK l D G A yX9_reasonAt w9_X9_reasonAt r9_X9_reasonAt E n as M rs := h 75
theorem ic_X9_isAcceptable {l : Launch} {D : va_G} {G : Gam} {A : Nat → Prop} {call : Call} (h : CallOK l D G A infT call) : ∀ E n as M rs, call 76 E n as M = some rs → MOK l D G A yX9_isAcceptable w9_X9_isAcceptable r9_X9_isAcceptable E n as M rs := h 76
theorem ic_X9_paysBetter {l : Launch} {D : va_G} {G : Gam} {A : Nat → Prop} {call : Call} (h : CallOK l D G A infT call) : ∀ E n as M rs, call 77 E n as M = some rs → MOK l D G A yX9_paysBetter w9_X9_paysBetter r9_X9_paysBetter E n as M rs := h 77
theorem ic_X9_prefersEcho {l : Launch} {D : va_G} {G : Gam} {A : Nat → Prop} {call : Call} (h : CallOK l D G A infT call) : ∀ E n as M rs, call 78 E n as M = some rs → MOK l D G A yX9_prefersEcho w9_X9_prefersEcho r9_X9_prefersEcho E n as M rs := h 78
theorem ic_X9_rankOfValley {l : Launch} {D : va_G} {G : Gam} {A : Nat → Prop} {call : Call} (h : CallOK l D G A infT call) : ∀ E n as M rs, call 79 E n as M = some rs → MOK l D G A yX9_rankOfValley w9_X9_rankOfValley r9_X9_rankOfValley E n as M rs := h 79
theorem ic_X9_rankOfEcho {l : Launch} {D : va_G} {G : Gam} {A : Nat → Prop} {call : Call} (h : CallOK l D G A infT call) : ∀ E n as M rs, call 80 E n as M = some rs → MOK l D G A yX9_rankOfEcho w9_X9_rankOfEcho r9_X9_rankOfEcho E n as M rs := h 80
theorem ic_X9_isBlocking {l : Launch} {D : va_G} {G : Gam} {A : Nat → Prop} {call : Call} (h : CallOK l D G A infT call) : ∀ E n as M rs, call 81 E n as M = some rs → MOK l D G A yX9_isBlocking w9_X9_isBlocking r9_X9_isBlocking E n as M rs := h 81
theorem ic_X9_wouldMove {l : Launch} {D : va_G} {G : Gam} {A : Nat → Prop} {call : Call} (h : CallOK l D G A infT call) : ∀ E n as M rs, call 82 E n as M = some rs → MOK l D G A yX9_wouldMove w9_X9_wouldMove r9_X9_wouldMove E n as M rs := h 82
theorem ic_X9_wouldTake {l : Launch} {D : va_G} {G : Gam} {A : Nat → Prop} {call : Call} (h : CallOK l D G A infT call) : ∀ E n as M rs, call 83 E n as M = some rs → MOK l D G A yX9_wouldTake w9_X9_wouldTake r9_X9_wouldTake E n as M rs := h 83
theorem ic_X9_canTest {l : Launch} {D : va_G} {G : Gam} {A : Nat → Prop} {call : Call} (h : CallOK l D G A infT call) : ∀ E n as M rs, call 84 E n as M = some rs → MOK l D G A yX9_canTest w9_X9_canTest r9_X9_canTest E n as M rs := h 84
theorem ic_X9_employ {l : Launch} {D : va_G} {G : Gam} {A : Nat → Prop} {call : Call} (h : CallOK l D G A infT call) : ∀ E n as M rs, call 85 E n as M = some rs → MOK l D G A yX9_employ w9_X9_employ r9_X9_employ E n as M rs := h 85
theorem ic_X9_endContract {l : Launch} {D : va_G} {G : Gam} {A : Nat → Prop} {call : Call} (h : CallOK l D G A infT call) : ∀ E n as M rs, call 86 E n as M = some rs → MOK l D G A yX9_endContract w9_X9_endContract r9_X9_endContract E n as M rs := h 86
theorem ic_X9_endSeason {l : Launch} {D : va_G} {G : Gam} {A : Nat → Prop} {call : Call} (h : CallOK l D G A infT call) : ∀ E n as M rs, call 87 E n as M = some rs → MOK l D G A yX9_endSeason w9_X9_endSeason r9_X9_endSeason E n as M rs := h 87
theorem ic_X9_work {l : Launch} {D : va_G} {G : Gam} {A : Nat → Prop} {call : Call} (h : CallOK l D G A infT call) : ∀ E n as M rs, call 88 E n as M = some rs → MOK l D G A yX9_work w9_X9_work r9_X9_work E n as M rs := h 88
theorem ic_X9_hearReplies {l : Launch} {D : va_G} {G : Gam} {A : Nat → Prop} {call : Call} (h : CallOK l D G A infT call) : ∀ E n as M rs, call 89 E n as M = some rs → MOK l D G A yX9_hearReplies w9_X9_hearReplies r9_X9_hearReplies E n as M rs := h 89
theorem ic_X9_payStaff {l : Launch} {D : va_G} {G : Gam} {A : Nat → Prop} {call : Call} (h : CallOK l D G A infT call) : ∀ E n as M rs, call 90 E n as M = some rs → MOK l D G A yX9_payStaff w9_X9_payStaff r9_X9_payStaff E n as M rs := h 90
theorem ic_X9_desert {l : Launch} {D : va_G} {G : Gam} {A : Nat → Prop} {call : Call} (h : CallOK l D G A infT call) : ∀ E n as M rs, call 91 E n as M = some rs → MOK l D G A yX9_desert w9_X9_desert r9_X9_desert E n as M rs := h 91
theorem ic_X9_putMoney {l : Launch} {D : va_G} {G : Gam} {A : Nat → Prop} {call : Call} (h : CallOK l D G A infT call) : ∀ E n as M rs, call 92 E n as M = some rs → MOK l D G A yX9_putMoney w9_X9_putMoney r9_X9_putMoney E n as M rs := h 92
theorem ic_X9_teach {l : Launch} {D : va_G} {G : Gam} {A : Nat → Prop} {call : Call} (h : CallOK l D G A infT call) : ∀ E n as M rs, call 93 E n as M = some rs → MOK l D G A yX9_teach w9_X9_teach r9_X9_teach E n as M rs := h 93
theorem ic_X9_moneyInPurses {l : Launch} {D : va_G} {G : Gam} {A : Nat → Prop} {call : Call} (h : CallOK l D G A infT call) : ∀ E n as M rs, call 94 E n as M = some rs → MOK l D G A yX9_moneyInPurses w9_X9_moneyInPurses r9_X9_moneyInPurses E n as M rs := h 94
theorem ic_X9_moneySaved {l : Launch} {D : va_G} {G : Gam} {A : Nat → Prop} {call : Call} (h : CallOK l D G A infT call) : ∀ E n as M rs, call 95 E n as M = some rs → MOK l D G A yX9_moneySaved w9_X9_moneySaved r9_X9_moneySaved E n as M rs := h 95
theorem ic_X9_contracts {l : Launch} {D : va_G} {G : Gam} {A : Nat → Prop} {call : Call} (h : CallOK l D G A infT call) : ∀ E n as M rs, call 96 E n as M = some rs → MOK l D G A yX9_contracts w9_X9_contracts r9_X9_contracts E n as M rs := h 96
theorem ic_X9_valleysServedBy {l : Launch} {D : va_G} {G : Gam} {A : Nat → Prop} {call : Call} (h : CallOK l D G A infT call) : ∀ E n as M rs, call 97 E n as M = some rs → MOK l D G A yX9_valleysServedBy w9_X9_valleysServedBy r9_X9_valleysServedBy E n as M rs := h 97
theorem ic_X10_init {l : Launch} {D : va_G} {G : Gam} {A : Nat → Prop} {call : Call} (h : CallOK l D G A infT call) : ∀ E n as M rs, call 98 E n as M = some rs → MOK l D G A yX10_init w9_X10_init r9_X10_init E n as M rs := h 98
theorem ic_X10_append {l : Launch} {D : va_G} {G : Gam} {A : Nat → Prop} {call : Call} (h : CallOK l D G A infT call) : ∀ E n as M rs, call 99 E n as M = some rs → MOK l D G A yX10_append w9_X10_append r9_X10_append E n as M rs := h 99
theorem ic_X10_truncate {l : Launch} {D : va_G} {G : Gam} {A : Nat → Prop} {call : Call} (h : CallOK l D G A infT call) : ∀ E n as M rs, call 100 E n as M = some rs → MOK l D G A yX10_truncate w9_X10_truncate r9_X10_truncate E n as M rs := h 100
theorem ic_X10_load {l : Launch} {D : va_G} {G : Gam} {A : Nat → Prop} {call : Call} (h : CallOK l D G A infT call) : ∀ E n as M rs, call 101 E n as M = some rs → MOK l D G A yX10_load w9_X10_load r9_X10_load E n as M rs := h 101
theorem ic_X10_executeCommands {l : Launch} {D : va_G} {G : Gam} {A : Nat → Prop} {call : Call} (h : CallOK l D G A infT call) : ∀ E n as M rs, call 102 E n as M = some rs → MOK l D G A yX10_executeCommands w9_X10_executeCommands r9_X10_executeCommands E n as M rs := h 102
theorem ic_X10_errorCode {l : Launch} {D : va_G} {G : Gam} {A : Nat → Prop} {call : Call} (h : CallOK l D G A infT call) : ∀ E n as M rs, call 103 E n as M = some rs → MOK l D G A yX10_errorCode w9_X10_errorCode r9_X10_errorCode E n as M rs := h 103
theorem ic_X10_errorPosition {l : Launch} {D : va_G} {G : Gam} {A : Nat → Prop} {call : Call} (h : CallOK l D G A infT call) : ∀ E n as M rs, call 104 E n as M = some rs → MOK l D G A yX10_errorPosition w9_X10_errorPosition r9_X10_errorPosition E n as M rs := h 104
theorem ic_X10_echoCount {l : Launch} {D : va_G} {G : Gam} {A : Nat → Prop} {call : Call} (h : CallOK l D G A infT call) : ∀ E n as M rs, call 105 E n as M = some rs → MOK l D G A yX10_echoCount w9_X10_echoCount r9_X10_echoCount E n as M rs := h 105
theorem ic_X10_valleyCount {l : Launch} {D : va_G} {G : Gam} {A : Nat → Prop} {call : Call} (h : CallOK l D G A infT call) : ∀ E n as M rs, call 106 E n as M = some rs → MOK l D G A yX10_valleyCount w9_X10_valleyCount r9_X10_valleyCount E n as M rs := h 106
theorem ic_X10_day {l : Launch} {D : va_G} {G : Gam} {A : Nat → Prop} {call : Call} (h : CallOK l D G A infT call) : ∀ E n as M rs, call 107 E n as M = some rs → MOK l D G A yX10_day w9_X10_day r9_X10_day E n as M rs := h 107
theorem ic_X10_seasonLength {l : Launch} {D : va_G} {G : Gam} {A : Nat → Prop} {call : Call} (h : CallOK l D G A infT call) : ∀ E n as M rs, call 108 E n as M = some rs → MOK l D G A yX10_seasonLength w9_X10_seasonLength r9_X10_seasonLength E n as M rs := h 108
theorem ic_X10_fogOf {l : Launch} {D : va_G} {G : Gam} {A : Nat → Prop} {call : Call} (h : CallOK l D G A infT call) : ∀ E n as M rs, call 109 E n as M = some rs → MOK l D G A yX10_fogOf w9_X10_fogOf r9_X10_fogOf E n as M rs := h 109
theorem ic_X10_findEcho {l : Launch} {D : va_G} {G : Gam} {A : Nat → Prop} {call : Call} (h : CallOK l D G A infT call) : ∀ E n as M rs, call 110 E n as M = some rs → MOK l D G A yX10_findEcho w9_X10_findEcho r9_X10_findEcho E n as M rs := h 110
theorem ic_X10_findValley {l : Launch} {D : va_G} {G : Gam} {A : Nat → Prop} {call : Call} (h : CallOK l D G A infT call) : ∀ E n as M rs, call 111 E n as M = some rs → MOK l D G A yX10_findValley w9_X10_findValley r9_X10_findValley E n as M rs := h 111
theorem ic_X10_delayOf {l : Launch} {D : va_G} {G : Gam} {A : Nat → Prop} {call : Call} (h : CallOK l D G A infT call) : ∀ E n as M rs, call 112 E n as M = some rs → MOK l D G A yX10_delayOf w9_X10_delayOf r9_X10_delayOf E n as M rs := h 112
theorem ic_X10_repeatsOf {l : Launch} {D : va_G} {G : Gam} {A : Nat → Prop} {call : Call} (h : CallOK l D G A infT call) : ∀ E n as M rs, call 113 E n as M = some rs → MOK l D G A yX10_repeatsOf w9_X10_repeatsOf r9_X10_repeatsOf E n as M rs := h 113
theorem ic_X10_reserveWage {l : Launch} {D : va_G} {G : Gam} {A : Nat → Prop} {call : Call} (h : CallOK l D G A infT call) : ∀ E n as M rs, call 114 E n as M = some rs → MOK l D G A yX10_reserveWage w9_X10_reserveWage r9_X10_reserveWage E n as M rs := h 114
theorem ic_X10_resistanceOf {l : Launch} {D : va_G} {G : Gam} {A : Nat → Prop} {call : Call} (h : CallOK l D G A infT call) : ∀ E n as M rs, call 115 E n as M = some rs → MOK l D G A yX10_resistanceOf w9_X10_resistanceOf r9_X10_resistanceOf E n as M rs := h 115
theorem ic_X10_savingsOf {l : Launch} {D : va_G} {G : Gam} {A : Nat → Prop} {call : Call} (h : CallOK l D G A infT call) : ∀ E n as M rs, call 116 E n as M = some rs → MOK l D G A yX10_savingsOf w9_X10_savingsOf r9_X10_savingsOf E n as M rs := h 116
theorem ic_X10_unpaidDays {l : Launch} {D : va_G} {G : Gam} {A : Nat → Prop} {call : Call} (h : CallOK l D G A infT call) : ∀ E n as M rs, call 117 E n as M = some rs → MOK l D G A yX10_unpaidDays w9_X10_unpaidDays r9_X10_unpaidDays E n as M rs := h 117
theorem ic_X10_employerOf {l : Launch} {D : va_G} {G : Gam} {A : Nat → Prop} {call : Call} (h : CallOK l D G A infT call) : ∀ E n as M rs, call 118 E n as M = some rs → MOK l D G A yX10_employerOf w9_X10_employerOf r9_X10_employerOf E n as M rs := h 118
theorem ic_X10_widthOf {l : Launch} {D : va_G} {G : Gam} {A : Nat → Prop} {call : Call} (h : CallOK l D G A infT call) : ∀ E n as M rs, call 119 E n as M = some rs → MOK l D G A yX10_widthOf w9_X10_widthOf r9_X10_widthOf E n as M rs := h 119
theorem ic_X10_postsOf {l : Launch} {D : va_G} {G : Gam} {A : Nat → Prop} {call : Call} (h : CallOK l D G A infT call) : ∀ E n as M rs, call 120 E n as M = some rs → MOK l D G A yX10_postsOf w9_X10_postsOf r9_X10_postsOf E n as M rs := h 120
theorem ic_X10_wageOf {l : Launch} {D : va_G} {G : Gam} {A : Nat → Prop} {call : Call} (h : CallOK l D G A infT call) : ∀ E n as M rs, call 121 E n as M = some rs → MOK l D G A yX10_wageOf w9_X10_wageOf r9_X10_wageOf E n as M rs := h 121
theorem ic_X10_purseOf {l : Launch} {D : va_G} {G : Gam} {A : Nat → Prop} {call : Call} (h : CallOK l D G A infT call) : ∀ E n as M rs, call 122 E n as M = some rs → MOK l D G A yX10_purseOf w9_X10_purseOf r9_X10_purseOf E n as M rs := h 122
theorem ic_X10_staffCount {l : Launch} {D : va_G} {G : Gam} {A : Nat → Prop} {call : Call} (h : CallOK l D G A infT call) : ∀ E n as M rs, call 123 E n as M = some rs → MOK l D G A yX10_staffCount w9_X10_staffCount r9_X10_staffCount E n as M rs := h 123
theorem ic_X10_staffMember {l : Launch} {D : va_G} {G : Gam} {A : Nat → Prop} {call : Call} (h : CallOK l D G A infT call) : ∀ E n as M rs, call 124 E n as M = some rs → MOK l D G A yX10_staffMember w9_X10_staffMember r9_X10_staffMember E n as M rs := h 124
theorem ic_X10_isTested {l : Launch} {D : va_G} {G : Gam} {A : Nat → Prop} {call : Call} (h : CallOK l D G A infT call) : ∀ E n as M rs, call 125 E n as M = some rs → MOK l D G A yX10_isTested w9_X10_isTested r9_X10_isTested E n as M rs := h 125
theorem ic_X10_seenScore {l : Launch} {D : va_G} {G : Gam} {A : Nat → Prop} {call : Call} (h : CallOK l D G A infT call) : ∀ E n as M rs, call 126 E n as M = some rs → MOK l D G A yX10_seenScore w9_X10_seenScore r9_X10_seenScore E n as M rs := h 126
theorem ic_X10_pairReason {l : Launch} {D : va_G} {G : Gam} {A : Nat → Prop} {call : Call} (h : CallOK l D G A infT call) : ∀ E n as M rs, call 127 E n as M = some rs → MOK l D G A yX10_pairReason w9_X10_pairReason r9_X10_pairReason E n as M rs := h 127
theorem ic_X10_preferredValley {l : Launch} {D : va_G} {G : Gam} {A : Nat → Prop} {call : Call} (h : CallOK l D G A infT call) : ∀ E n as M rs, call 128 E n as M = some rs → MOK l D G A yX10_preferredValley w9_X10_preferredValley r9_X10_preferredValley E n as M rs := h 128
theorem ic_X10_preferredEcho {l : Launch} {D : va_G} {G : Gam} {A : Nat → Prop} {call : Call} (h : CallOK l D G A infT call) : ∀ E n as M rs, call 129 E n as M = some rs → MOK l D G A yX10_preferredEcho w9_X10_preferredEcho r9_X10_preferredEcho E n as M rs := h 129
theorem ic_X10_blockingPairs {l : Launch} {D : va_G} {G : Gam} {A : Nat → Prop} {call : Call} (h : CallOK l D G A infT call) : ∀ E n as M rs, call 130 E n as M = some rs → MOK l D G A yX10_blockingPairs w9_X10_blockingPairs r9_X10_blockingPairs E n as M rs := h 130
theorem ic_X10_fairResult {l : Launch} {D : va_G} {G : Gam} {A : Nat → Prop} {call : Call} (h : CallOK l D G A infT call) : ∀ E n as M rs, call 131 E n as M = some rs → MOK l D G A yX10_fairResult w9_X10_fairResult r9_X10_fairResult E n as M rs := h 131
theorem ic_X10_savingsAfter {l : Launch} {D : va_G} {G : Gam} {A : Nat → Prop} {call : Call} (h : CallOK l D G A infT call) : ∀ E n as M rs, call 132 E n as M = some rs → MOK l D G A yX10_savingsAfter w9_X10_savingsAfter r9_X10_savingsAfter E n as M rs := h 132
theorem ic_X10_purseAfter {l : Launch} {D : va_G} {G : Gam} {A : Nat → Prop} {call : Call} (h : CallOK l D G A infT call) : ∀ E n as M rs, call 133 E n as M = some rs → MOK l D G A yX10_purseAfter w9_X10_purseAfter r9_X10_purseAfter E n as M rs := h 133
theorem ic_X10_desertsIn {l : Launch} {D : va_G} {G : Gam} {A : Nat → Prop} {call : Call} (h : CallOK l D G A infT call) : ∀ E n as M rs, call 134 E n as M = some rs → MOK l D G A yX10_desertsIn w9_X10_desertsIn r9_X10_desertsIn E n as M rs := h 134
theorem ic_X10_leastWage {l : Launch} {D : va_G} {G : Gam} {A : Nat → Prop} {call : Call} (h : CallOK l D G A infT call) : ∀ E n as M rs, call 135 E n as M = some rs → MOK l D G A yX10_leastWage w9_X10_leastWage r9_X10_leastWage E n as M rs := h 135
theorem ic_X10_bestTest {l : Launch} {D : va_G} {G : Gam} {A : Nat → Prop} {call : Call} (h : CallOK l D G A infT call) : ∀ E n as M rs, call 136 E n as M = some rs → MOK l D G A yX10_bestTest w9_X10_bestTest r9_X10_bestTest E n as M rs := h 136
theorem ic_X10_richestEcho {l : Launch} {D : va_G} {G : Gam} {A : Nat → Prop} {call : Call} (h : CallOK l D G A infT call) : ∀ E n as M rs, call 137 E n as M = some rs → MOK l D G A yX10_richestEcho w9_X10_richestEcho r9_X10_richestEcho E n as M rs := h 137
theorem ic_X10_daysServed {l : Launch} {D : va_G} {G : Gam} {A : Nat → Prop} {call : Call} (h : CallOK l D G A infT call) : ∀ E n as M rs, call 138 E n as M = some rs → MOK l D G A yX10_daysServed w9_X10_daysServed r9_X10_daysServed E n as M rs := h 138
theorem ic_X10_contractsMade {l : Launch} {D : va_G} {G : Gam} {A : Nat → Prop} {call : Call} (h : CallOK l D G A infT call) : ∀ E n as M rs, call 139 E n as M = some rs → MOK l D G A yX10_contractsMade w9_X10_contractsMade r9_X10_contractsMade E n as M rs := h 139
theorem ic_X10_contractsEnded {l : Launch} {D : va_G} {G : Gam} {A : Nat → Prop} {call : Call} (h : CallOK l D G A infT call) : ∀ E n as M rs, call 140 E n as M = some rs → MOK l D G A yX10_contractsEnded w9_X10_contractsEnded r9_X10_contractsEnded E n as M rs := h 140
theorem ic_X10_desertions {l : Launch} {D : va_G} {G : Gam} {A : Nat → Prop} {call : Call} (h : CallOK l D G A infT call) : ∀ E n as M rs, call 141 E n as M = some rs → MOK l D G A yX10_desertions w9_X10_desertions r9_X10_desertions E n as M rs := h 141
theorem ic_X10_repliesHeard {l : Launch} {D : va_G} {G : Gam} {A : Nat → Prop} {call : Call} (h : CallOK l D G A infT call) : ∀ E n as M rs, call 142 E n as M = some rs → MOK l D G A yX10_repliesHeard w9_X10_repliesHeard r9_X10_repliesHeard E n as M rs := h 142
theorem ic_X10_wagesPaid {l : Launch} {D : va_G} {G : Gam} {A : Nat → Prop} {call : Call} (h : CallOK l D G A infT call) : ∀ E n as M rs, call 143 E n as M = some rs → MOK l D G A yX10_wagesPaid w9_X10_wagesPaid r9_X10_wagesPaid E n as M rs := h 143
theorem ic_X10_moneyImbalance {l : Launch} {D : va_G} {G : Gam} {A : Nat → Prop} {call : Call} (h : CallOK l D G A infT call) : ∀ E n as M rs, call 144 E n as M = some rs → MOK l D G A yX10_moneyImbalance w9_X10_moneyImbalance r9_X10_moneyImbalance E n as M rs := h 144
theorem ic_X10_contractImbalance {l : Launch} {D : va_G} {G : Gam} {A : Nat → Prop} {call : Call} (h : CallOK l D G A infT call) : ∀ E n as M rs, call 145 E n as M = some rs → MOK l D G A yX10_contractImbalance w9_X10_contractImbalance r9_X10_contractImbalance E n as M rs := h 145
theorem ic_X10_doubleServants {l : Launch} {D : va_G} {G : Gam} {A : Nat → Prop} {call : Call} (h : CallOK l D G A infT call) : ∀ E n as M rs, call 146 E n as M = some rs → MOK l D G A yX10_doubleServants w9_X10_doubleServants r9_X10_doubleServants E n as M rs := h 146
theorem ic_X10_meanSavings {l : Launch} {D : va_G} {G : Gam} {A : Nat → Prop} {call : Call} (h : CallOK l D G A infT call) : ∀ E n as M rs, call 147 E n as M = some rs → MOK l D G A yX10_meanSavings w9_X10_meanSavings r9_X10_meanSavings E n as M rs := h 147
theorem ic_X10_employmentRate {l : Launch} {D : va_G} {G : Gam} {A : Nat → Prop} {call : Call} (h : CallOK l D G A infT call) : ∀ E n as M rs, call 148 E n as M = some rs → MOK l D G A yX10_employmentRate w9_X10_employmentRate r9_X10_employmentRate E n as M rs := h 148
theorem ic_X10_passDays {l : Launch} {D : va_G} {G : Gam} {A : Nat → Prop} {call : Call} (h : CallOK l D G A infT call) : ∀ E n as M rs, call 149 E n as M = some rs → MOK l D G A yX10_passDays w9_X10_passDays r9_X10_passDays E n as M rs := h 149
theorem ic_X10_holdFair {l : Launch} {D : va_G} {G : Gam} {A : Nat → Prop} {call : Call} (h : CallOK l D G A infT call) : ∀ E n as M rs, call 150 E n as M = some rs → MOK l D G A yX10_holdFair w9_X10_holdFair r9_X10_holdFair E n as M rs := h 150
theorem ic_X10_test {l : Launch} {D : va_G} {G : Gam} {A : Nat → Prop} {call : Call} (h : CallOK l D G A infT call) : ∀ E n as M rs, call 151 E n as M = some rs → MOK l D G A yX10_test w9_X10_test r9_X10_test E n as M rs := h 151
theorem ic_X10_dismiss {l : Launch} {D : va_G} {G : Gam} {A : Nat → Prop} {call : Call} (h : CallOK l D G A infT call) : ∀ E n as M rs, call 152 E n as M = some rs → MOK l D G A yX10_dismiss w9_X10_dismiss r9_X10_dismiss E n as M rs := h 152
theorem ic_X10_setWage {l : Launch} {D : va_G} {G : Gam} {A : Nat → Prop} {call : Call} (h : CallOK l D G A infT call) : ∀ E n as M rs, call 153 E n as M = some rs → MOK l D G A yX10_setWage w9_X10_setWage r9_X10_setWage E n as M rs := h 153
theorem ic_X10_fund {l : Launch} {D : va_G} {G : Gam} {A : Nat → Prop} {call : Call} (h : CallOK l D G A infT call) : ∀ E n as M rs, call 154 E n as M = some rs → MOK l D G A yX10_fund w9_X10_fund r9_X10_fund E n as M rs := h 154
theorem ic_X10_train {l : Launch} {D : va_G} {G : Gam} {A : Nat → Prop} {call : Call} (h : CallOK l D G A infT call) : ∀ E n as M rs, call 155 E n as M = some rs → MOK l D G A yX10_train w9_X10_train r9_X10_train E n as M rs := h 155
theorem ic_X10_undo {l : Launch} {D : va_G} {G : Gam} {A : Nat → Prop} {call : Call} (h : CallOK l D G A infT call) : ∀ E n as M rs, call 156 E n as M = some rs → MOK l D G A yX10_undo w9_X10_undo r9_X10_undo E n as M rs := h 156
theorem ic_X10_save {l : Launch} {D : va_G} {G : Gam} {A : Nat → Prop} {call : Call} (h : CallOK l D G A infT call) : ∀ E n as M rs, call 157 E n as M = some rs → MOK l D G A yX10_save w9_X10_save r9_X10_save E n as M rs := h 157
theorem ic_X10_restore {l : Launch} {D : va_G} {G : Gam} {A : Nat → Prop} {call : Call} (h : CallOK l D G A infT call) : ∀ E n as M rs, call 158 E n as M = some rs → MOK l D G A yX10_restore w9_X10_restore r9_X10_restore E n as M rs := h 158
theorem ic_X10_formatContracts {l : Launch} {D : va_G} {G : Gam} {A : Nat → Prop} {call : Call} (h : CallOK l D G A infT call) : ∀ E n as M rs, call 159 E n as M = some rs → MOK l D G A yX10_formatContracts w9_X10_formatContracts r9_X10_formatContracts E n as M rs := h 159
theorem ic_X10_outputByte {l : Launch} {D : va_G} {G : Gam} {A : Nat → Prop} {call : Call} (h : CallOK l D G A infT call) : ∀ E n as M rs, call 160 E n as M = some rs → MOK l D G A yX10_outputByte w9_X10_outputByte r9_X10_outputByte E n as M rs := h 160
theorem ic_X10_requireEcho {l : Launch} {D : va_G} {G : Gam} {A : Nat → Prop} {call : Call} (h : CallOK l D G A infT call) : ∀ E n as M rs, call 161 E n as M = some rs → MOK l D G A yX10_requireEcho w9_X10_requireEcho r9_X10_requireEcho E n as M rs := h 161
theorem ic_X10_requireValley {l : Launch} {D : va_G} {G : Gam} {A : Nat → Prop} {call : Call} (h : CallOK l D G A infT call) : ∀ E n as M rs, call 162 E n as M = some rs → MOK l D G A yX10_requireValley w9_X10_requireValley r9_X10_requireValley E n as M rs := h 162
theorem ic_X10_requirePair {l : Launch} {D : va_G} {G : Gam} {A : Nat → Prop} {call : Call} (h : CallOK l D G A infT call) : ∀ E n as M rs, call 163 E n as M = some rs → MOK l D G A yX10_requirePair w9_X10_requirePair r9_X10_requirePair E n as M rs := h 163
theorem ic_X10_echoAt {l : Launch} {D : va_G} {G : Gam} {A : Nat → Prop} {call : Call} (h : CallOK l D G A infT call) : ∀ E n as M rs, call 164 E n as M = some rs → MOK l D G A yX10_echoAt w9_X10_echoAt r9_X10_echoAt E n as M rs := h 164
theorem ic_X10_valleyAt {l : Launch} {D : va_G} {G : Gam} {A : Nat → Prop} {call : Call} (h : CallOK l D G A infT call) : ∀ E n as M rs, call 165 E n as M = some rs → MOK l D G A yX10_valleyAt w9_X10_valleyAt r9_X10_valleyAt E n as M rs := h 165
theorem ic_X10_adoptDraft {l : Launch} {D : va_G} {G : Gam} {A : Nat → Prop} {call : Call} (h : CallOK l D G A infT call) : ∀ E n as M rs, call 166 E n as M = some rs → MOK l D G A yX10_adoptDraft w9_X10_adoptDraft r9_X10_adoptDraft E n as M rs := h 166
theorem ic_X10_noteErrors {l : Launch} {D : va_G} {G : Gam} {A : Nat → Prop} {call : Call} (h : CallOK l D G A infT call) : ∀ E n as M rs, call 167 E n as M = some rs → MOK l D G A yX10_noteErrors w9_X10_noteErrors r9_X10_noteErrors E n as M rs := h 167
theorem ic_X10_simulate {l : Launch} {D : va_G} {G : Gam} {A : Nat → Prop} {call : Call} (h : CallOK l D G A infT call) : ∀ E n as M rs, call 168 E n as M = some rs → MOK l D G A yX10_simulate w9_X10_simulate r9_X10_simulate E n as M rs := h 168
theorem ic_X10_letDaysPass {l : Launch} {D : va_G} {G : Gam} {A : Nat → Prop} {call : Call} (h : CallOK l D G A infT call) : ∀ E n as M rs, call 169 E n as M = some rs → MOK l D G A yX10_letDaysPass w9_X10_letDaysPass r9_X10_letDaysPass E n as M rs := h 169
theorem ic_X10_perform {l : Launch} {D : va_G} {G : Gam} {A : Nat → Prop} {call : Call} (h : CallOK l D G A infT call) : ∀ E n as M rs, call 170 E n as M = some rs → MOK l D G A yX10_perform w9_X10_perform r9_X10_perform E n as M rs := h 170
theorem ic_X10_writeContracts {l : Launch} {D : va_G} {G : Gam} {A : Nat → Prop} {call : Call} (h : CallOK l D G A infT call) : ∀ E n as M rs, call 171 E n as M = some rs → MOK l D G A yX10_writeContracts w9_X10_writeContracts r9_X10_writeContracts E n as M rs := h 171
theorem ic_X11_init {l : Launch} {D : va_G} {G : Gam} {A : Nat → Prop} {call : Call} (h : CallOK l D G A infT call) : ∀ E n as M rs, call 172 E n as M = some rs → MOK l D G A yX11_init w9_X11_init r9_X11_init E n as M rs := h 172
theorem ic_X11_in {l : Launch} {D : va_G} {G : Gam} {A : Nat → Prop} {call : Call} (h : CallOK l D G A infT call) : ∀ E n as M rs, call 174 E n as M = some rs → MOK l D G A yX11_in w9_X11_in r9_X11_in E n as M rs := h 174
theorem ic_X11_truth {l : Launch} {D : va_G} {G : Gam} {A : Nat → Prop} {call : Call} (h : CallOK l D G A infT call) : ∀ E n as M rs, call 175 E n as M = some rs → MOK l D G A yX11_truth w9_X11_truth r9_X11_truth E n as M rs := h 175
theorem ic_X11_passes {l : Launch} {D : va_G} {G : Gam} {A : Nat → Prop} {call : Call} (h : CallOK l D G A infT call) : ∀ E n as M rs, call 176 E n as M = some rs → MOK l D G A yX11_passes w9_X11_passes r9_X11_passes E n as M rs := h 176
theorem ic_X11_passesBoth {l : Launch} {D : va_G} {G : Gam} {A : Nat → Prop} {call : Call} (h : CallOK l D G A infT call) : ∀ E n as M rs, call 177 E n as M = some rs → MOK l D G A yX11_passesBoth w9_X11_passesBoth r9_X11_passesBoth E n as M rs := h 177
theorem ic_X11_copies {l : Launch} {D : va_G} {G : Gam} {A : Nat → Prop} {call : Call} (h : CallOK l D G A infT call) : ∀ E n as M rs, call 178 E n as M = some rs → MOK l D G A yX11_copies w9_X11_copies r9_X11_copies E n as M rs := h 178
theorem ic_X11_tries {l : Launch} {D : va_G} {G : Gam} {A : Nat → Prop} {call : Call} (h : CallOK l D G A infT call) : ∀ E n as M rs, call 179 E n as M = some rs → MOK l D G A yX11_tries w9_X11_tries r9_X11_tries E n as M rs := h 179
theorem ic_X11_laidBack {l : Launch} {D : va_G} {G : Gam} {A : Nat → Prop} {call : Call} (h : CallOK l D G A infT call) : ∀ E n as M rs, call 180 E n as M = some rs → MOK l D G A yX11_laidBack w9_X11_laidBack r9_X11_laidBack E n as M rs := h 180
theorem ic_X11_of {l : Launch} {D : va_G} {G : Gam} {A : Nat → Prop} {call : Call} (h : CallOK l D G A infT call) : ∀ E n as M rs, call 181 E n as M = some rs → MOK l D G A yX11_of w9_X11_of r9_X11_of E n as M rs := h 181
theorem ic_X11_puts {l : Launch} {D : va_G} {G : Gam} {A : Nat → Prop} {call : Call} (h : CallOK l D G A infT call) : ∀ E n as M rs, call 182 E n as M = some rs → MOK l D G A yX11_puts w9_X11_puts r9_X11_puts E n as M rs := h 182
theorem ic_X11_ofValley {l : Launch} {D : va_G} {G : Gam} {A : Nat → Prop} {call : Call} (h : CallOK l D G A infT call) : ∀ E n as M rs, call 183 E n as M = some rs → MOK l D G A yX11_ofValley w9_X11_ofValley r9_X11_ofValley E n as M rs := h 183
theorem ic_X11_putsValley {l : Launch} {D : va_G} {G : Gam} {A : Nat → Prop} {call : Call} (h : CallOK l D G A infT call) : ∀ E n as M rs, call 184 E n as M = some rs → MOK l D G A yX11_putsValley w9_X11_putsValley r9_X11_putsValley E n as M rs := h 184
theorem ic_X11_pair {l : Launch} {D : va_G} {G : Gam} {A : Nat → Prop} {call : Call} (h : CallOK l D G A infT call) : ∀ E n as M rs, call 185 E n as M = some rs → MOK l D G A yX11_pair w9_X11_pair r9_X11_pair E n as M rs := h 185
theorem ic_X11_isEcho {l : Launch} {D : va_G} {G : Gam} {A : Nat → Prop} {call : Call} (h : CallOK l D G A infT call) : ∀ E n as M rs, call 186 E n as M = some rs → MOK l D G A yX11_isEcho w9_X11_isEcho r9_X11_isEcho E n as M rs := h 186
theorem ic_X11_isValley {l : Launch} {D : va_G} {G : Gam} {A : Nat → Prop} {call : Call} (h : CallOK l D G A infT call) : ∀ E n as M rs, call 187 E n as M = some rs → MOK l D G A yX11_isValley w9_X11_isValley r9_X11_isValley E n as M rs := h 187
theorem ic_X11_areBoth {l : Launch} {D : va_G} {G : Gam} {A : Nat → Prop} {call : Call} (h : CallOK l D G A infT call) : ∀ E n as M rs, call 188 E n as M = some rs → MOK l D G A yX11_areBoth w9_X11_areBoth r9_X11_areBoth E n as M rs := h 188
theorem ic_X11_employer {l : Launch} {D : va_G} {G : Gam} {A : Nat → Prop} {call : Call} (h : CallOK l D G A infT call) : ∀ E n as M rs, call 189 E n as M = some rs → MOK l D G A yX11_employer w9_X11_employer r9_X11_employer E n as M rs := h 189
theorem ic_X11_hasContract {l : Launch} {D : va_G} {G : Gam} {A : Nat → Prop} {call : Call} (h : CallOK l D G A infT call) : ∀ E n as M rs, call 190 E n as M = some rs → MOK l D G A yX11_hasContract w9_X11_hasContract r9_X11_hasContract E n as M rs := h 190
theorem ic_X11_freePosts {l : Launch} {D : va_G} {G : Gam} {A : Nat → Prop} {call : Call} (h : CallOK l D G A infT call) : ∀ E n as M rs, call 191 E n as M = some rs → MOK l D G A yX11_freePosts w9_X11_freePosts r9_X11_freePosts E n as M rs := h 191
theorem ic_X11_fogNow {l : Launch} {D : va_G} {G : Gam} {A : Nat → Prop} {call : Call} (h : CallOK l D G A infT call) : ∀ E n as M rs, call 192 E n as M = some rs → MOK l D G A yX11_fogNow w9_X11_fogNow r9_X11_fogNow E n as M rs := h 192
theorem ic_X11_trueScore {l : Launch} {D : va_G} {G : Gam} {A : Nat → Prop} {call : Call} (h : CallOK l D G A infT call) : ∀ E n as M rs, call 193 E n as M = some rs → MOK l D G A yX11_trueScore w9_X11_trueScore r9_X11_trueScore E n as M rs := h 193
theorem ic_X11_seen {l : Launch} {D : va_G} {G : Gam} {A : Nat → Prop} {call : Call} (h : CallOK l D G A infT call) : ∀ E n as M rs, call 194 E n as M = some rs → MOK l D G A yX11_seen w9_X11_seen r9_X11_seen E n as M rs := h 194
theorem ic_X11_reasonOf {l : Launch} {D : va_G} {G : Gam} {A : Nat → Prop} {call : Call} (h : CallOK l D G A infT call) : ∀ E n as M rs, call 195 E n as M = some rs → MOK l D G A yX11_reasonOf w9_X11_reasonOf r9_X11_reasonOf E n as M rs := h 195
theorem ic_X11_isAcceptable {l : Launch} {D : va_G} {G : Gam} {A : Nat → Prop} {call : Call} (h : CallOK l D G A infT call) : ∀ E n as M rs, call 196 E n as M = some rs → MOK l D G A yX11_isAcceptable w9_X11_isAcceptable r9_X11_isAcceptable E n as M rs := h 196
theorem ic_X11_isBetterValley {l : Launch} {D : va_G} {G : Gam} {A : Nat → Prop} {call : Call} (h : CallOK l D G A infT call) : ∀ E n as M rs, call 197 E n as M = some rs → MOK l D G A yX11_isBetterValley w9_X11_isBetterValley r9_X11_isBetterValley E n as M rs := h 197
theorem ic_X11_isBetterEcho {l : Launch} {D : va_G} {G : Gam} {A : Nat → Prop} {call : Call} (h : CallOK l D G A infT call) : ∀ E n as M rs, call 198 E n as M = some rs → MOK l D G A yX11_isBetterEcho w9_X11_isBetterEcho r9_X11_isBetterEcho E n as M rs := h 198
theorem ic_X11_contractComes {l : Launch} {D : va_G} {G : Gam} {A : Nat → Prop} {call : Call} (h : CallOK l D G A infT call) : ∀ E n as M rs, call 199 E n as M = some rs → MOK l D G A yX11_contractComes w9_X11_contractComes r9_X11_contractComes E n as M rs := h 199
theorem ic_X11_contractEnds {l : Launch} {D : va_G} {G : Gam} {A : Nat → Prop} {call : Call} (h : CallOK l D G A infT call) : ∀ E n as M rs, call 200 E n as M = some rs → MOK l D G A yX11_contractEnds w9_X11_contractEnds r9_X11_contractEnds E n as M rs := h 200
theorem ic_X11_enqueues {l : Launch} {D : va_G} {G : Gam} {A : Nat → Prop} {call : Call} (h : CallOK l D G A infT call) : ∀ E n as M rs, call 201 E n as M = some rs → MOK l D G A yX11_enqueues w9_X11_enqueues r9_X11_enqueues E n as M rs := h 201
theorem ic_X11_dequeues {l : Launch} {D : va_G} {G : Gam} {A : Nat → Prop} {call : Call} (h : CallOK l D G A infT call) : ∀ E n as M rs, call 202 E n as M = some rs → MOK l D G A yX11_dequeues w9_X11_dequeues r9_X11_dequeues E n as M rs := h 202
theorem ic_X11_nextValley {l : Launch} {D : va_G} {G : Gam} {A : Nat → Prop} {call : Call} (h : CallOK l D G A infT call) : ∀ E n as M rs, call 203 E n as M = some rs → MOK l D G A yX11_nextValley w9_X11_nextValley r9_X11_nextValley E n as M rs := h 203
theorem ic_X11_leastKept {l : Launch} {D : va_G} {G : Gam} {A : Nat → Prop} {call : Call} (h : CallOK l D G A infT call) : ∀ E n as M rs, call 204 E n as M = some rs → MOK l D G A yX11_leastKept w9_X11_leastKept r9_X11_leastKept E n as M rs := h 204
theorem ic_X11_applies {l : Launch} {D : va_G} {G : Gam} {A : Nat → Prop} {call : Call} (h : CallOK l D G A infT call) : ∀ E n as M rs, call 205 E n as M = some rs → MOK l D G A yX11_applies w9_X11_applies r9_X11_applies E n as M rs := h 205
theorem ic_X11_startsFair {l : Launch} {D : va_G} {G : Gam} {A : Nat → Prop} {call : Call} (h : CallOK l D G A infT call) : ∀ E n as M rs, call 206 E n as M = some rs → MOK l D G A yX11_startsFair w9_X11_startsFair r9_X11_startsFair E n as M rs := h 206
theorem ic_X11_isKept {l : Launch} {D : va_G} {G : Gam} {A : Nat → Prop} {call : Call} (h : CallOK l D G A infT call) : ∀ E n as M rs, call 207 E n as M = some rs → MOK l D G A yX11_isKept w9_X11_isKept r9_X11_isKept E n as M rs := h 207
theorem ic_X11_fairNow {l : Launch} {D : va_G} {G : Gam} {A : Nat → Prop} {call : Call} (h : CallOK l D G A infT call) : ∀ E n as M rs, call 208 E n as M = some rs → MOK l D G A yX11_fairNow w9_X11_fairNow r9_X11_fairNow E n as M rs := h 208
theorem ic_X11_beginsSeason {l : Launch} {D : va_G} {G : Gam} {A : Nat → Prop} {call : Call} (h : CallOK l D G A infT call) : ∀ E n as M rs, call 209 E n as M = some rs → MOK l D G A yX11_beginsSeason w9_X11_beginsSeason r9_X11_beginsSeason E n as M rs := h 209
theorem ic_X11_earns {l : Launch} {D : va_G} {G : Gam} {A : Nat → Prop} {call : Call} (h : CallOK l D G A infT call) : ∀ E n as M rs, call 210 E n as M = some rs → MOK l D G A yX11_earns w9_X11_earns r9_X11_earns E n as M rs := h 210
theorem ic_X11_pays {l : Launch} {D : va_G} {G : Gam} {A : Nat → Prop} {call : Call} (h : CallOK l D G A infT call) : ∀ E n as M rs, call 211 E n as M = some rs → MOK l D G A yX11_pays w9_X11_pays r9_X11_pays E n as M rs := h 211
theorem ic_X11_mayDesert {l : Launch} {D : va_G} {G : Gam} {A : Nat → Prop} {call : Call} (h : CallOK l D G A infT call) : ∀ E n as M rs, call 212 E n as M = some rs → MOK l D G A yX11_mayDesert w9_X11_mayDesert r9_X11_mayDesert E n as M rs := h 212
theorem ic_X11_dayOnce {l : Launch} {D : va_G} {G : Gam} {A : Nat → Prop} {call : Call} (h : CallOK l D G A infT call) : ∀ E n as M rs, call 213 E n as M = some rs → MOK l D G A yX11_dayOnce w9_X11_dayOnce r9_X11_dayOnce E n as M rs := h 213
theorem ic_X11_goBy {l : Launch} {D : va_G} {G : Gam} {A : Nat → Prop} {call : Call} (h : CallOK l D G A infT call) : ∀ E n as M rs, call 214 E n as M = some rs → MOK l D G A yX11_goBy w9_X11_goBy r9_X11_goBy E n as M rs := h 214
theorem ic_X11_allLeft {l : Launch} {D : va_G} {G : Gam} {A : Nat → Prop} {call : Call} (h : CallOK l D G A infT call) : ∀ E n as M rs, call 215 E n as M = some rs → MOK l D G A yX11_allLeft w9_X11_allLeft r9_X11_allLeft E n as M rs := h 215
theorem ic_X11_passNow {l : Launch} {D : va_G} {G : Gam} {A : Nat → Prop} {call : Call} (h : CallOK l D G A infT call) : ∀ E n as M rs, call 216 E n as M = some rs → MOK l D G A yX11_passNow w9_X11_passNow r9_X11_passNow E n as M rs := h 216
theorem ic_X11_holdNow {l : Launch} {D : va_G} {G : Gam} {A : Nat → Prop} {call : Call} (h : CallOK l D G A infT call) : ∀ E n as M rs, call 217 E n as M = some rs → MOK l D G A yX11_holdNow w9_X11_holdNow r9_X11_holdNow E n as M rs := h 217
theorem ic_X11_canTest {l : Launch} {D : va_G} {G : Gam} {A : Nat → Prop} {call : Call} (h : CallOK l D G A infT call) : ∀ E n as M rs, call 218 E n as M = some rs → MOK l D G A yX11_canTest w9_X11_canTest r9_X11_canTest E n as M rs := h 218
theorem ic_X11_testNow {l : Launch} {D : va_G} {G : Gam} {A : Nat → Prop} {call : Call} (h : CallOK l D G A infT call) : ∀ E n as M rs, call 219 E n as M = some rs → MOK l D G A yX11_testNow w9_X11_testNow r9_X11_testNow E n as M rs := h 219
theorem ic_X11_dismissNow {l : Launch} {D : va_G} {G : Gam} {A : Nat → Prop} {call : Call} (h : CallOK l D G A infT call) : ∀ E n as M rs, call 220 E n as M = some rs → MOK l D G A yX11_dismissNow w9_X11_dismissNow r9_X11_dismissNow E n as M rs := h 220
theorem ic_X11_wageNow {l : Launch} {D : va_G} {G : Gam} {A : Nat → Prop} {call : Call} (h : CallOK l D G A infT call) : ∀ E n as M rs, call 221 E n as M = some rs → MOK l D G A yX11_wageNow w9_X11_wageNow r9_X11_wageNow E n as M rs := h 221
theorem ic_X11_fundNow {l : Launch} {D : va_G} {G : Gam} {A : Nat → Prop} {call : Call} (h : CallOK l D G A infT call) : ∀ E n as M rs, call 222 E n as M = some rs → MOK l D G A yX11_fundNow w9_X11_fundNow r9_X11_fundNow E n as M rs := h 222
theorem ic_X11_canTrain {l : Launch} {D : va_G} {G : Gam} {A : Nat → Prop} {call : Call} (h : CallOK l D G A infT call) : ∀ E n as M rs, call 223 E n as M = some rs → MOK l D G A yX11_canTrain w9_X11_canTrain r9_X11_canTrain E n as M rs := h 223
theorem ic_X11_trainNow {l : Launch} {D : va_G} {G : Gam} {A : Nat → Prop} {call : Call} (h : CallOK l D G A infT call) : ∀ E n as M rs, call 224 E n as M = some rs → MOK l D G A yX11_trainNow w9_X11_trainNow r9_X11_trainNow E n as M rs := h 224
theorem ic_X11_four {l : Launch} {D : va_G} {G : Gam} {A : Nat → Prop} {call : Call} (h : CallOK l D G A infT call) : ∀ E n as M rs, call 225 E n as M = some rs → MOK l D G A yX11_four w9_X11_four r9_X11_four E n as M rs := h 225
theorem ic_X11_append {l : Launch} {D : va_G} {G : Gam} {A : Nat → Prop} {call : Call} (h : CallOK l D G A infT call) : ∀ E n as M rs, call 226 E n as M = some rs → MOK l D G A yX11_append w9_X11_append r9_X11_append E n as M rs := h 226
theorem ic_X11_truncate {l : Launch} {D : va_G} {G : Gam} {A : Nat → Prop} {call : Call} (h : CallOK l D G A infT call) : ∀ E n as M rs, call 227 E n as M = some rs → MOK l D G A yX11_truncate w9_X11_truncate r9_X11_truncate E n as M rs := h 227
theorem ic_X11_byteAt {l : Launch} {D : va_G} {G : Gam} {A : Nat → Prop} {call : Call} (h : CallOK l D G A infT call) : ∀ E n as M rs, call 228 E n as M = some rs → MOK l D G A yX11_byteAt w9_X11_byteAt r9_X11_byteAt E n as M rs := h 228
theorem ic_X11_next {l : Launch} {D : va_G} {G : Gam} {A : Nat → Prop} {call : Call} (h : CallOK l D G A infT call) : ∀ E n as M rs, call 229 E n as M = some rs → MOK l D G A yX11_next w9_X11_next r9_X11_next E n as M rs := h 229
theorem ic_X11_must {l : Launch} {D : va_G} {G : Gam} {A : Nat → Prop} {call : Call} (h : CallOK l D G A infT call) : ∀ E n as M rs, call 230 E n as M = some rs → MOK l D G A yX11_must w9_X11_must r9_X11_must E n as M rs := h 230
theorem ic_X11_sees {l : Launch} {D : va_G} {G : Gam} {A : Nat → Prop} {call : Call} (h : CallOK l D G A infT call) : ∀ E n as M rs, call 231 E n as M = some rs → MOK l D G A yX11_sees w9_X11_sees r9_X11_sees E n as M rs := h 231
theorem ic_X11_goesPast {l : Launch} {D : va_G} {G : Gam} {A : Nat → Prop} {call : Call} (h : CallOK l D G A infT call) : ∀ E n as M rs, call 232 E n as M = some rs → MOK l D G A yX11_goesPast w9_X11_goesPast r9_X11_goesPast E n as M rs := h 232
theorem ic_X11_keyword {l : Launch} {D : va_G} {G : Gam} {A : Nat → Prop} {call : Call} (h : CallOK l D G A infT call) : ∀ E n as M rs, call 233 E n as M = some rs → MOK l D G A yX11_keyword w9_X11_keyword r9_X11_keyword E n as M rs := h 233
theorem ic_X11_semicolon {l : Launch} {D : va_G} {G : Gam} {A : Nat → Prop} {call : Call} (h : CallOK l D G A infT call) : ∀ E n as M rs, call 234 E n as M = some rs → MOK l D G A yX11_semicolon w9_X11_semicolon r9_X11_semicolon E n as M rs := h 234
theorem ic_X11_number {l : Launch} {D : va_G} {G : Gam} {A : Nat → Prop} {call : Call} (h : CallOK l D G A infT call) : ∀ E n as M rs, call 235 E n as M = some rs → MOK l D G A yX11_number w9_X11_number r9_X11_number E n as M rs := h 235
theorem ic_X11_isNumberNext {l : Launch} {D : va_G} {G : Gam} {A : Nat → Prop} {call : Call} (h : CallOK l D G A infT call) : ∀ E n as M rs, call 236 E n as M = some rs → MOK l D G A yX11_isNumberNext w9_X11_isNumberNext r9_X11_isNumberNext E n as M rs := h 236
theorem ic_X11_isName {l : Launch} {D : va_G} {G : Gam} {A : Nat → Prop} {call : Call} (h : CallOK l D G A infT call) : ∀ E n as M rs, call 237 E n as M = some rs → MOK l D G A yX11_isName w9_X11_isName r9_X11_isName E n as M rs := h 237
theorem ic_X11_isNamed {l : Launch} {D : va_G} {G : Gam} {A : Nat → Prop} {call : Call} (h : CallOK l D G A infT call) : ∀ E n as M rs, call 238 E n as M = some rs → MOK l D G A yX11_isNamed w9_X11_isNamed r9_X11_isNamed E n as M rs := h 238
theorem ic_X11_placeOf {l : Launch} {D : va_G} {G : Gam} {A : Nat → Prop} {call : Call} (h : CallOK l D G A infT call) : ∀ E n as M rs, call 239 E n as M = some rs → MOK l D G A yX11_placeOf w9_X11_placeOf r9_X11_placeOf E n as M rs := h 239
theorem ic_X11_thingHere {l : Launch} {D : va_G} {G : Gam} {A : Nat → Prop} {call : Call} (h : CallOK l D G A infT call) : ∀ E n as M rs, call 240 E n as M = some rs → MOK l D G A yX11_thingHere w9_X11_thingHere r9_X11_thingHere E n as M rs := h 240
theorem ic_X11_mustBe {l : Launch} {D : va_G} {G : Gam} {A : Nat → Prop} {call : Call} (h : CallOK l D G A infT call) : ∀ E n as M rs, call 241 E n as M = some rs → MOK l D G A yX11_mustBe w9_X11_mustBe r9_X11_mustBe E n as M rs := h 241
theorem ic_X11_newName {l : Launch} {D : va_G} {G : Gam} {A : Nat → Prop} {call : Call} (h : CallOK l D G A infT call) : ∀ E n as M rs, call 242 E n as M = some rs → MOK l D G A yX11_newName w9_X11_newName r9_X11_newName E n as M rs := h 242
theorem ic_X11_startsText {l : Launch} {D : va_G} {G : Gam} {A : Nat → Prop} {call : Call} (h : CallOK l D G A infT call) : ∀ E n as M rs, call 243 E n as M = some rs → MOK l D G A yX11_startsText w9_X11_startsText r9_X11_startsText E n as M rs := h 243
theorem ic_X11_endsText {l : Launch} {D : va_G} {G : Gam} {A : Nat → Prop} {call : Call} (h : CallOK l D G A infT call) : ∀ E n as M rs, call 244 E n as M = some rs → MOK l D G A yX11_endsText w9_X11_endsText r9_X11_endsText E n as M rs := h 244
theorem ic_X11_errorCode {l : Launch} {D : va_G} {G : Gam} {A : Nat → Prop} {call : Call} (h : CallOK l D G A infT call) : ∀ E n as M rs, call 245 E n as M = some rs → MOK l D G A yX11_errorCode w9_X11_errorCode r9_X11_errorCode E n as M rs := h 245
theorem ic_X11_errorPosition {l : Launch} {D : va_G} {G : Gam} {A : Nat → Prop} {call : Call} (h : CallOK l D G A infT call) : ∀ E n as M rs, call 246 E n as M = some rs → MOK l D G A yX11_errorPosition w9_X11_errorPosition r9_X11_errorPosition E n as M rs := h 246
theorem ic_X11_fogLine {l : Launch} {D : va_G} {G : Gam} {A : Nat → Prop} {call : Call} (h : CallOK l D G A infT call) : ∀ E n as M rs, call 247 E n as M = some rs → MOK l D G A yX11_fogLine w9_X11_fogLine r9_X11_fogLine E n as M rs := h 247
theorem ic_X11_echoLine {l : Launch} {D : va_G} {G : Gam} {A : Nat → Prop} {call : Call} (h : CallOK l D G A infT call) : ∀ E n as M rs, call 248 E n as M = some rs → MOK l D G A yX11_echoLine w9_X11_echoLine r9_X11_echoLine E n as M rs := h 248
theorem ic_X11_valleyLine {l : Launch} {D : va_G} {G : Gam} {A : Nat → Prop} {call : Call} (h : CallOK l D G A infT call) : ∀ E n as M rs, call 249 E n as M = some rs → MOK l D G A yX11_valleyLine w9_X11_valleyLine r9_X11_valleyLine E n as M rs := h 249
theorem ic_X11_testedLine {l : Launch} {D : va_G} {G : Gam} {A : Nat → Prop} {call : Call} (h : CallOK l D G A infT call) : ∀ E n as M rs, call 250 E n as M = some rs → MOK l D G A yX11_testedLine w9_X11_testedLine r9_X11_testedLine E n as M rs := h 250
theorem ic_X11_statement {l : Launch} {D : va_G} {G : Gam} {A : Nat → Prop} {call : Call} (h : CallOK l D G A infT call) : ∀ E n as M rs, call 251 E n as M = some rs → MOK l D G A yX11_statement w9_X11_statement r9_X11_statement E n as M rs := h 251
theorem ic_X11_load {l : Launch} {D : va_G} {G : Gam} {A : Nat → Prop} {call : Call} (h : CallOK l D G A infT call) : ∀ E n as M rs, call 252 E n as M = some rs → MOK l D G A yX11_load w9_X11_load r9_X11_load E n as M rs := h 252
theorem ic_X11_otherCommand {l : Launch} {D : va_G} {G : Gam} {A : Nat → Prop} {call : Call} (h : CallOK l D G A infT call) : ∀ E n as M rs, call 253 E n as M = some rs → MOK l D G A yX11_otherCommand w9_X11_otherCommand r9_X11_otherCommand E n as M rs := h 253
theorem ic_X11_commandHere {l : Launch} {D : va_G} {G : Gam} {A : Nat → Prop} {call : Call} (h : CallOK l D G A infT call) : ∀ E n as M rs, call 254 E n as M = some rs → MOK l D G A yX11_commandHere w9_X11_commandHere r9_X11_commandHere E n as M rs := h 254
theorem ic_X11_partsOf {l : Launch} {D : va_G} {G : Gam} {A : Nat → Prop} {call : Call} (h : CallOK l D G A infT call) : ∀ E n as M rs, call 255 E n as M = some rs → MOK l D G A yX11_partsOf w9_X11_partsOf r9_X11_partsOf E n as M rs := h 255
theorem ic_X11_readsOne {l : Launch} {D : va_G} {G : Gam} {A : Nat → Prop} {call : Call} (h : CallOK l D G A infT call) : ∀ E n as M rs, call 256 E n as M = some rs → MOK l D G A yX11_readsOne w9_X11_readsOne r9_X11_readsOne E n as M rs := h 256
theorem ic_X11_doesOne {l : Launch} {D : va_G} {G : Gam} {A : Nat → Prop} {call : Call} (h : CallOK l D G A infT call) : ∀ E n as M rs, call 257 E n as M = some rs → MOK l D G A yX11_doesOne w9_X11_doesOne r9_X11_doesOne E n as M rs := h 257
theorem ic_X11_keeps {l : Launch} {D : va_G} {G : Gam} {A : Nat → Prop} {call : Call} (h : CallOK l D G A infT call) : ∀ E n as M rs, call 258 E n as M = some rs → MOK l D G A yX11_keeps w9_X11_keeps r9_X11_keeps E n as M rs := h 258
theorem ic_X11_executeCommands {l : Launch} {D : va_G} {G : Gam} {A : Nat → Prop} {call : Call} (h : CallOK l D G A infT call) : ∀ E n as M rs, call 259 E n as M = some rs → MOK l D G A yX11_executeCommands w9_X11_executeCommands r9_X11_executeCommands E n as M rs := h 259
theorem ic_X11_tells {l : Launch} {D : va_G} {G : Gam} {A : Nat → Prop} {call : Call} (h : CallOK l D G A infT call) : ∀ E n as M rs, call 260 E n as M = some rs → MOK l D G A yX11_tells w9_X11_tells r9_X11_tells E n as M rs := h 260
theorem ic_X11_tellsEcho {l : Launch} {D : va_G} {G : Gam} {A : Nat → Prop} {call : Call} (h : CallOK l D G A infT call) : ∀ E n as M rs, call 261 E n as M = some rs → MOK l D G A yX11_tellsEcho w9_X11_tellsEcho r9_X11_tellsEcho E n as M rs := h 261
theorem ic_X11_tellsValley {l : Launch} {D : va_G} {G : Gam} {A : Nat → Prop} {call : Call} (h : CallOK l D G A infT call) : ∀ E n as M rs, call 262 E n as M = some rs → MOK l D G A yX11_tellsValley w9_X11_tellsValley r9_X11_tellsValley E n as M rs := h 262
theorem ic_X11_echoCount {l : Launch} {D : va_G} {G : Gam} {A : Nat → Prop} {call : Call} (h : CallOK l D G A infT call) : ∀ E n as M rs, call 263 E n as M = some rs → MOK l D G A yX11_echoCount w9_X11_echoCount r9_X11_echoCount E n as M rs := h 263
theorem ic_X11_valleyCount {l : Launch} {D : va_G} {G : Gam} {A : Nat → Prop} {call : Call} (h : CallOK l D G A infT call) : ∀ E n as M rs, call 264 E n as M = some rs → MOK l D G A yX11_valleyCount w9_X11_valleyCount r9_X11_valleyCount E n as M rs := h 264
theorem ic_X11_day {l : Launch} {D : va_G} {G : Gam} {A : Nat → Prop} {call : Call} (h : CallOK l D G A infT call) : ∀ E n as M rs, call 265 E n as M = some rs → MOK l D G A yX11_day w9_X11_day r9_X11_day E n as M rs := h 265
theorem ic_X11_seasonLength {l : Launch} {D : va_G} {G : Gam} {A : Nat → Prop} {call : Call} (h : CallOK l D G A infT call) : ∀ E n as M rs, call 266 E n as M = some rs → MOK l D G A yX11_seasonLength w9_X11_seasonLength r9_X11_seasonLength E n as M rs := h 266
theorem ic_X11_fogOf {l : Launch} {D : va_G} {G : Gam} {A : Nat → Prop} {call : Call} (h : CallOK l D G A infT call) : ∀ E n as M rs, call 267 E n as M = some rs → MOK l D G A yX11_fogOf w9_X11_fogOf r9_X11_fogOf E n as M rs := h 267
theorem ic_X11_finds {l : Launch} {D : va_G} {G : Gam} {A : Nat → Prop} {call : Call} (h : CallOK l D G A infT call) : ∀ E n as M rs, call 268 E n as M = some rs → MOK l D G A yX11_finds w9_X11_finds r9_X11_finds E n as M rs := h 268
theorem ic_X11_findEcho {l : Launch} {D : va_G} {G : Gam} {A : Nat → Prop} {call : Call} (h : CallOK l D G A infT call) : ∀ E n as M rs, call 269 E n as M = some rs → MOK l D G A yX11_findEcho w9_X11_findEcho r9_X11_findEcho E n as M rs := h 269
theorem ic_X11_findValley {l : Launch} {D : va_G} {G : Gam} {A : Nat → Prop} {call : Call} (h : CallOK l D G A infT call) : ∀ E n as M rs, call 270 E n as M = some rs → MOK l D G A yX11_findValley w9_X11_findValley r9_X11_findValley E n as M rs := h 270
theorem ic_X11_delayOf {l : Launch} {D : va_G} {G : Gam} {A : Nat → Prop} {call : Call} (h : CallOK l D G A infT call) : ∀ E n as M rs, call 271 E n as M = some rs → MOK l D G A yX11_delayOf w9_X11_delayOf r9_X11_delayOf E n as M rs := h 271
theorem ic_X11_repeatsOf {l : Launch} {D : va_G} {G : Gam} {A : Nat → Prop} {call : Call} (h : CallOK l D G A infT call) : ∀ E n as M rs, call 272 E n as M = some rs → MOK l D G A yX11_repeatsOf w9_X11_repeatsOf r9_X11_repeatsOf E n as M rs := h 272
theorem ic_X11_reserveWage {l : Launch} {D : va_G} {G : Gam} {A : Nat → Prop} {call : Call} (h : CallOK l D G A infT call) : ∀ E n as M rs, call 273 E n as M = some rs → MOK l D G A yX11_reserveWage w9_X11_reserveWage r9_X11_reserveWage E n as M rs := h 273
theorem ic_X11_resistanceOf {l : Launch} {D : va_G} {G : Gam} {A : Nat → Prop} {call : Call} (h : CallOK l D G A infT call) : ∀ E n as M rs, call 274 E n as M = some rs → MOK l D G A yX11_resistanceOf w9_X11_resistanceOf r9_X11_resistanceOf E n as M rs := h 274
theorem ic_X11_savingsOf {l : Launch} {D : va_G} {G : Gam} {A : Nat → Prop} {call : Call} (h : CallOK l D G A infT call) : ∀ E n as M rs, call 275 E n as M = some rs → MOK l D G A yX11_savingsOf w9_X11_savingsOf r9_X11_savingsOf E n as M rs := h 275
theorem ic_X11_unpaidDays {l : Launch} {D : va_G} {G : Gam} {A : Nat → Prop} {call : Call} (h : CallOK l D G A infT call) : ∀ E n as M rs, call 276 E n as M = some rs → MOK l D G A yX11_unpaidDays w9_X11_unpaidDays r9_X11_unpaidDays E n as M rs := h 276
theorem ic_X11_employerOf {l : Launch} {D : va_G} {G : Gam} {A : Nat → Prop} {call : Call} (h : CallOK l D G A infT call) : ∀ E n as M rs, call 277 E n as M = some rs → MOK l D G A yX11_employerOf w9_X11_employerOf r9_X11_employerOf E n as M rs := h 277
theorem ic_X11_widthOf {l : Launch} {D : va_G} {G : Gam} {A : Nat → Prop} {call : Call} (h : CallOK l D G A infT call) : ∀ E n as M rs, call 278 E n as M = some rs → MOK l D G A yX11_widthOf w9_X11_widthOf r9_X11_widthOf E n as M rs := h 278
theorem ic_X11_postsOf {l : Launch} {D : va_G} {G : Gam} {A : Nat → Prop} {call : Call} (h : CallOK l D G A infT call) : ∀ E n as M rs, call 279 E n as M = some rs → MOK l D G A yX11_postsOf w9_X11_postsOf r9_X11_postsOf E n as M rs := h 279
theorem ic_X11_wageOf {l : Launch} {D : va_G} {G : Gam} {A : Nat → Prop} {call : Call} (h : CallOK l D G A infT call) : ∀ E n as M rs, call 280 E n as M = some rs → MOK l D G A yX11_wageOf w9_X11_wageOf r9_X11_wageOf E n as M rs := h 280
theorem ic_X11_purseOf {l : Launch} {D : va_G} {G : Gam} {A : Nat → Prop} {call : Call} (h : CallOK l D G A infT call) : ∀ E n as M rs, call 281 E n as M = some rs → MOK l D G A yX11_purseOf w9_X11_purseOf r9_X11_purseOf E n as M rs := h 281
theorem ic_X11_staffCount {l : Launch} {D : va_G} {G : Gam} {A : Nat → Prop} {call : Call} (h : CallOK l D G A infT call) : ∀ E n as M rs, call 282 E n as M = some rs → MOK l D G A yX11_staffCount w9_X11_staffCount r9_X11_staffCount E n as M rs := h 282
theorem ic_X11_staffMember {l : Launch} {D : va_G} {G : Gam} {A : Nat → Prop} {call : Call} (h : CallOK l D G A infT call) : ∀ E n as M rs, call 283 E n as M = some rs → MOK l D G A yX11_staffMember w9_X11_staffMember r9_X11_staffMember E n as M rs := h 283
theorem ic_X11_isTested {l : Launch} {D : va_G} {G : Gam} {A : Nat → Prop} {call : Call} (h : CallOK l D G A infT call) : ∀ E n as M rs, call 284 E n as M = some rs → MOK l D G A yX11_isTested w9_X11_isTested r9_X11_isTested E n as M rs := h 284
theorem ic_X11_seenScore {l : Launch} {D : va_G} {G : Gam} {A : Nat → Prop} {call : Call} (h : CallOK l D G A infT call) : ∀ E n as M rs, call 285 E n as M = some rs → MOK l D G A yX11_seenScore w9_X11_seenScore r9_X11_seenScore E n as M rs := h 285
theorem ic_X11_pairReason {l : Launch} {D : va_G} {G : Gam} {A : Nat → Prop} {call : Call} (h : CallOK l D G A infT call) : ∀ E n as M rs, call 286 E n as M = some rs → MOK l D G A yX11_pairReason w9_X11_pairReason r9_X11_pairReason E n as M rs := h 286
theorem ic_X11_valleyAt {l : Launch} {D : va_G} {G : Gam} {A : Nat → Prop} {call : Call} (h : CallOK l D G A infT call) : ∀ E n as M rs, call 287 E n as M = some rs → MOK l D G A yX11_valleyAt w9_X11_valleyAt r9_X11_valleyAt E n as M rs := h 287
theorem ic_X11_preferredValley {l : Launch} {D : va_G} {G : Gam} {A : Nat → Prop} {call : Call} (h : CallOK l D G A infT call) : ∀ E n as M rs, call 288 E n as M = some rs → MOK l D G A yX11_preferredValley w9_X11_preferredValley r9_X11_preferredValley E n as M rs := h 288
theorem ic_X11_echoAt {l : Launch} {D : va_G} {G : Gam} {A : Nat → Prop} {call : Call} (h : CallOK l D G A infT call) : ∀ E n as M rs, call 289 E n as M = some rs → MOK l D G A yX11_echoAt w9_X11_echoAt r9_X11_echoAt E n as M rs := h 289
theorem ic_X11_preferredEcho {l : Launch} {D : va_G} {G : Gam} {A : Nat → Prop} {call : Call} (h : CallOK l D G A infT call) : ∀ E n as M rs, call 290 E n as M = some rs → MOK l D G A yX11_preferredEcho w9_X11_preferredEcho r9_X11_preferredEcho E n as M rs := h 290
theorem ic_X11_wouldLeave {l : Launch} {D : va_G} {G : Gam} {A : Nat → Prop} {call : Call} (h : CallOK l D G A infT call) : ∀ E n as M rs, call 291 E n as M = some rs → MOK l D G A yX11_wouldLeave w9_X11_wouldLeave r9_X11_wouldLeave E n as M rs := h 291
theorem ic_X11_wouldTake {l : Launch} {D : va_G} {G : Gam} {A : Nat → Prop} {call : Call} (h : CallOK l D G A infT call) : ∀ E n as M rs, call 292 E n as M = some rs → MOK l D G A yX11_wouldTake w9_X11_wouldTake r9_X11_wouldTake E n as M rs := h 292
theorem ic_X11_isBlocking {l : Launch} {D : va_G} {G : Gam} {A : Nat → Prop} {call : Call} (h : CallOK l D G A infT call) : ∀ E n as M rs, call 293 E n as M = some rs → MOK l D G A yX11_isBlocking w9_X11_isBlocking r9_X11_isBlocking E n as M rs := h 293
theorem ic_X11_blockingPairs {l : Launch} {D : va_G} {G : Gam} {A : Nat → Prop} {call : Call} (h : CallOK l D G A infT call) : ∀ E n as M rs, call 294 E n as M = some rs → MOK l D G A yX11_blockingPairs w9_X11_blockingPairs r9_X11_blockingPairs E n as M rs := h 294
theorem ic_X11_resultOf {l : Launch} {D : va_G} {G : Gam} {A : Nat → Prop} {call : Call} (h : CallOK l D G A infT call) : ∀ E n as M rs, call 295 E n as M = some rs → MOK l D G A yX11_resultOf w9_X11_resultOf r9_X11_resultOf E n as M rs := h 295
theorem ic_X11_fairResult {l : Launch} {D : va_G} {G : Gam} {A : Nat → Prop} {call : Call} (h : CallOK l D G A infT call) : ∀ E n as M rs, call 296 E n as M = some rs → MOK l D G A yX11_fairResult w9_X11_fairResult r9_X11_fairResult E n as M rs := h 296
theorem ic_X11_areDays {l : Launch} {D : va_G} {G : Gam} {A : Nat → Prop} {call : Call} (h : CallOK l D G A infT call) : ∀ E n as M rs, call 297 E n as M = some rs → MOK l D G A yX11_areDays w9_X11_areDays r9_X11_areDays E n as M rs := h 297
theorem ic_X11_savingsAfter {l : Launch} {D : va_G} {G : Gam} {A : Nat → Prop} {call : Call} (h : CallOK l D G A infT call) : ∀ E n as M rs, call 298 E n as M = some rs → MOK l D G A yX11_savingsAfter w9_X11_savingsAfter r9_X11_savingsAfter E n as M rs := h 298
theorem ic_X11_purseAfter {l : Launch} {D : va_G} {G : Gam} {A : Nat → Prop} {call : Call} (h : CallOK l D G A infT call) : ∀ E n as M rs, call 299 E n as M = some rs → MOK l D G A yX11_purseAfter w9_X11_purseAfter r9_X11_purseAfter E n as M rs := h 299
theorem ic_X11_desertsIn {l : Launch} {D : va_G} {G : Gam} {A : Nat → Prop} {call : Call} (h : CallOK l D G A infT call) : ∀ E n as M rs, call 300 E n as M = some rs → MOK l D G A yX11_desertsIn w9_X11_desertsIn r9_X11_desertsIn E n as M rs := h 300
theorem ic_X11_leastWage {l : Launch} {D : va_G} {G : Gam} {A : Nat → Prop} {call : Call} (h : CallOK l D G A infT call) : ∀ E n as M rs, call 301 E n as M = some rs → MOK l D G A yX11_leastWage w9_X11_leastWage r9_X11_leastWage E n as M rs := h 301
theorem ic_X11_bestTest {l : Launch} {D : va_G} {G : Gam} {A : Nat → Prop} {call : Call} (h : CallOK l D G A infT call) : ∀ E n as M rs, call 302 E n as M = some rs → MOK l D G A yX11_bestTest w9_X11_bestTest r9_X11_bestTest E n as M rs := h 302
theorem ic_X11_richestEcho {l : Launch} {D : va_G} {G : Gam} {A : Nat → Prop} {call : Call} (h : CallOK l D G A infT call) : ∀ E n as M rs, call 303 E n as M = some rs → MOK l D G A yX11_richestEcho w9_X11_richestEcho r9_X11_richestEcho E n as M rs := h 303
theorem ic_X11_daysServed {l : Launch} {D : va_G} {G : Gam} {A : Nat → Prop} {call : Call} (h : CallOK l D G A infT call) : ∀ E n as M rs, call 304 E n as M = some rs → MOK l D G A yX11_daysServed w9_X11_daysServed r9_X11_daysServed E n as M rs := h 304
theorem ic_X11_contractsMade {l : Launch} {D : va_G} {G : Gam} {A : Nat → Prop} {call : Call} (h : CallOK l D G A infT call) : ∀ E n as M rs, call 305 E n as M = some rs → MOK l D G A yX11_contractsMade w9_X11_contractsMade r9_X11_contractsMade E n as M rs := h 305
theorem ic_X11_contractsEnded {l : Launch} {D : va_G} {G : Gam} {A : Nat → Prop} {call : Call} (h : CallOK l D G A infT call) : ∀ E n as M rs, call 306 E n as M = some rs → MOK l D G A yX11_contractsEnded w9_X11_contractsEnded r9_X11_contractsEnded E n as M rs := h 306
theorem ic_X11_desertions {l : Launch} {D : va_G} {G : Gam} {A : Nat → Prop} {call : Call} (h : CallOK l D G A infT call) : ∀ E n as M rs, call 307 E n as M = some rs → MOK l D G A yX11_desertions w9_X11_desertions r9_X11_desertions E n as M rs := h 307
theorem ic_X11_repliesHeard {l : Launch} {D : va_G} {G : Gam} {A : Nat → Prop} {call : Call} (h : CallOK l D G A infT call) : ∀ E n as M rs, call 308 E n as M = some rs → MOK l D G A yX11_repliesHeard w9_X11_repliesHeard r9_X11_repliesHeard E n as M rs := h 308
theorem ic_X11_wagesPaid {l : Launch} {D : va_G} {G : Gam} {A : Nat → Prop} {call : Call} (h : CallOK l D G A infT call) : ∀ E n as M rs, call 309 E n as M = some rs → MOK l D G A yX11_wagesPaid w9_X11_wagesPaid r9_X11_wagesPaid E n as M rs := h 309
theorem ic_X11_savings {l : Launch} {D : va_G} {G : Gam} {A : Nat → Prop} {call : Call} (h : CallOK l D G A infT call) : ∀ E n as M rs, call 310 E n as M = some rs → MOK l D G A yX11_savings w9_X11_savings r9_X11_savings E n as M rs := h 310
theorem ic_X11_purses {l : Launch} {D : va_G} {G : Gam} {A : Nat → Prop} {call : Call} (h : CallOK l D G A infT call) : ∀ E n as M rs, call 311 E n as M = some rs → MOK l D G A yX11_purses w9_X11_purses r9_X11_purses E n as M rs := h 311
theorem ic_X11_contracts {l : Launch} {D : va_G} {G : Gam} {A : Nat → Prop} {call : Call} (h : CallOK l D G A infT call) : ∀ E n as M rs, call 312 E n as M = some rs → MOK l D G A yX11_contracts w9_X11_contracts r9_X11_contracts E n as M rs := h 312
theorem ic_X11_moneyImbalance {l : Launch} {D : va_G} {G : Gam} {A : Nat → Prop} {call : Call} (h : CallOK l D G A infT call) : ∀ E n as M rs, call 313 E n as M = some rs → MOK l D G A yX11_moneyImbalance w9_X11_moneyImbalance r9_X11_moneyImbalance E n as M rs := h 313
theorem ic_X11_contractImbalance {l : Launch} {D : va_G} {G : Gam} {A : Nat → Prop} {call : Call} (h : CallOK l D G A infT call) : ∀ E n as M rs, call 314 E n as M = some rs → MOK l D G A yX11_contractImbalance w9_X11_contractImbalance r9_X11_contractImbalance E n as M rs := h 314
theorem ic_X11_servedBy {l : Launch} {D : va_G} {G : Gam} {A : Nat → Prop} {call : Call} (h : CallOK l D G A infT call) : ∀ E n as M rs, call 315 E n as M = some rs → MOK l D G A yX11_servedBy w9_X11_servedBy r9_X11_servedBy E n as M rs := h 315
theorem ic_X11_doubleServants {l : Launch} {D : va_G} {G : Gam} {A : Nat → Prop} {call : Call} (h : CallOK l D G A infT call) : ∀ E n as M rs, call 316 E n as M = some rs → MOK l D G A yX11_doubleServants w9_X11_doubleServants r9_X11_doubleServants E n as M rs := h 316
theorem ic_X11_meanSavings {l : Launch} {D : va_G} {G : Gam} {A : Nat → Prop} {call : Call} (h : CallOK l D G A infT call) : ∀ E n as M rs, call 317 E n as M = some rs → MOK l D G A yX11_meanSavings w9_X11_meanSavings r9_X11_meanSavings E n as M rs := h 317
theorem ic_X11_employmentRate {l : Launch} {D : va_G} {G : Gam} {A : Nat → Prop} {call : Call} (h : CallOK l D G A infT call) : ∀ E n as M rs, call 318 E n as M = some rs → MOK l D G A yX11_employmentRate w9_X11_employmentRate r9_X11_employmentRate E n as M rs := h 318
theorem ic_X11_tried {l : Launch} {D : va_G} {G : Gam} {A : Nat → Prop} {call : Call} (h : CallOK l D G A infT call) : ∀ E n as M rs, call 319 E n as M = some rs → MOK l D G A yX11_tried w9_X11_tried r9_X11_tried E n as M rs := h 319
theorem ic_X11_done {l : Launch} {D : va_G} {G : Gam} {A : Nat → Prop} {call : Call} (h : CallOK l D G A infT call) : ∀ E n as M rs, call 320 E n as M = some rs → MOK l D G A yX11_done w9_X11_done r9_X11_done E n as M rs := h 320
theorem ic_X11_passDays {l : Launch} {D : va_G} {G : Gam} {A : Nat → Prop} {call : Call} (h : CallOK l D G A infT call) : ∀ E n as M rs, call 321 E n as M = some rs → MOK l D G A yX11_passDays w9_X11_passDays r9_X11_passDays E n as M rs := h 321
theorem ic_X11_holdFair {l : Launch} {D : va_G} {G : Gam} {A : Nat → Prop} {call : Call} (h : CallOK l D G A infT call) : ∀ E n as M rs, call 322 E n as M = some rs → MOK l D G A yX11_holdFair w9_X11_holdFair r9_X11_holdFair E n as M rs := h 322
theorem ic_X11_test {l : Launch} {D : va_G} {G : Gam} {A : Nat → Prop} {call : Call} (h : CallOK l D G A infT call) : ∀ E n as M rs, call 323 E n as M = some rs → MOK l D G A yX11_test w9_X11_test r9_X11_test E n as M rs := h 323
theorem ic_X11_dismiss {l : Launch} {D : va_G} {G : Gam} {A : Nat → Prop} {call : Call} (h : CallOK l D G A infT call) : ∀ E n as M rs, call 324 E n as M = some rs → MOK l D G A yX11_dismiss w9_X11_dismiss r9_X11_dismiss E n as M rs := h 324
theorem ic_X11_setWage {l : Launch} {D : va_G} {G : Gam} {A : Nat → Prop} {call : Call} (h : CallOK l D G A infT call) : ∀ E n as M rs, call 325 E n as M = some rs → MOK l D G A yX11_setWage w9_X11_setWage r9_X11_setWage E n as M rs := h 325
theorem ic_X11_fund {l : Launch} {D : va_G} {G : Gam} {A : Nat → Prop} {call : Call} (h : CallOK l D G A infT call) : ∀ E n as M rs, call 326 E n as M = some rs → MOK l D G A yX11_fund w9_X11_fund r9_X11_fund E n as M rs := h 326
theorem ic_X11_train {l : Launch} {D : va_G} {G : Gam} {A : Nat → Prop} {call : Call} (h : CallOK l D G A infT call) : ∀ E n as M rs, call 327 E n as M = some rs → MOK l D G A yX11_train w9_X11_train r9_X11_train E n as M rs := h 327
theorem ic_X11_undo {l : Launch} {D : va_G} {G : Gam} {A : Nat → Prop} {call : Call} (h : CallOK l D G A infT call) : ∀ E n as M rs, call 328 E n as M = some rs → MOK l D G A yX11_undo w9_X11_undo r9_X11_undo E n as M rs := h 328
theorem ic_X11_save {l : Launch} {D : va_G} {G : Gam} {A : Nat → Prop} {call : Call} (h : CallOK l D G A infT call) : ∀ E n as M rs, call 329 E n as M = some rs → MOK l D G A yX11_save w9_X11_save r9_X11_save E n as M rs := h 329
theorem ic_X11_restore {l : Launch} {D : va_G} {G : Gam} {A : Nat → Prop} {call : Call} (h : CallOK l D G A infT call) : ∀ E n as M rs, call 330 E n as M = some rs → MOK l D G A yX11_restore w9_X11_restore r9_X11_restore E n as M rs := h 330
theorem ic_X11_writes {l : Launch} {D : va_G} {G : Gam} {A : Nat → Prop} {call : Call} (h : CallOK l D G A infT call) : ∀ E n as M rs, call 331 E n as M = some rs → MOK l D G A yX11_writes w9_X11_writes r9_X11_writes E n as M rs := h 331
theorem ic_X11_writesName {l : Launch} {D : va_G} {G : Gam} {A : Nat → Prop} {call : Call} (h : CallOK l D G A infT call) : ∀ E n as M rs, call 332 E n as M = some rs → MOK l D G A yX11_writesName w9_X11_writesName r9_X11_writesName E n as M rs := h 332
theorem ic_X11_formatContracts {l : Launch} {D : va_G} {G : Gam} {A : Nat → Prop} {call : Call} (h : CallOK l D G A infT call) : ∀ E n as M rs, call 333 E n as M = some rs → MOK l D G A yX11_formatContracts w9_X11_formatContracts r9_X11_formatContracts E n as M rs := h 333
theorem ic_X11_outputByte {l : Launch} {D : va_G} {G : Gam} {A : Nat → Prop} {call : Call} (h : CallOK l D G A infT call) : ∀ E n as M rs, call 334 E n as M = some rs → MOK l D G A yX11_outputByte w9_X11_outputByte r9_X11_outputByte E n as M rs := h 334
theorem ic_J9_floorMod_7cf53 {l : Launch} {D : va_G} {G : Gam} {A : Nat → Prop} {call : Call} (h : CallOK l D G A infT call) : ∀ E n as M rs, call 335 E n as M = some rs → MOK l D G A yJ9_floorMod_7cf53 w9_J9_floorMod_7cf53 r9_J9_floorMod_7cf53 E n as M rs := h 335
theorem ic_J9_abs_0f7a4 {l : Launch} {D : va_G} {G : Gam} {A : Nat → Prop} {call : Call} (h : CallOK l D G A infT call) : ∀ E n as M rs, call 336 E n as M = some rs → MOK l D G A yJ9_abs_0f7a4 w9_J9_abs_0f7a4 r9_J9_abs_0f7a4 E n as M rs := h 336
theorem ic_J9_max_7cf53 {l : Launch} {D : va_G} {G : Gam} {A : Nat → Prop} {call : Call} (h : CallOK l D G A infT call) : ∀ E n as M rs, call 337 E n as M = some rs → MOK l D G A yJ9_max_7cf53 w9_J9_max_7cf53 r9_J9_max_7cf53 E n as M rs := h 337
theorem ic_J0_length_8abf5 {l : Launch} {D : va_G} {G : Gam} {A : Nat → Prop} {call : Call} (h : CallOK l D G A infT call) : ∀ E n as M rs, call 338 E n as M = some rs → MOK l D G A yJ0_length_8abf5 w9_J0_length_8abf5 r9_J0_length_8abf5 E n as M rs := h 338
theorem ic_J0_charAt_5068e {l : Launch} {D : va_G} {G : Gam} {A : Nat → Prop} {call : Call} (h : CallOK l D G A infT call) : ∀ E n as M rs, call 339 E n as M = some rs → MOK l D G A yJ0_charAt_5068e w9_J0_charAt_5068e r9_J0_charAt_5068e E n as M rs := h 339
theorem ic_J0_coder_7d493 {l : Launch} {D : va_G} {G : Gam} {A : Nat → Prop} {call : Call} (h : CallOK l D G A infT call) : ∀ E n as M rs, call 340 E n as M = some rs → MOK l D G A yJ0_coder_7d493 w9_J0_coder_7d493 r9_J0_coder_7d493 E n as M rs := h 340
theorem ic_J0_isLatin1_aae02 {l : Launch} {D : va_G} {G : Gam} {A : Nat → Prop} {call : Call} (h : CallOK l D G A infT call) : ∀ E n as M rs, call 341 E n as M = some rs → MOK l D G A yJ0_isLatin1_aae02 w9_J0_isLatin1_aae02 r9_J0_isLatin1_aae02 E n as M rs := h 341
theorem ic_J0_checkIndex_df160 {l : Launch} {D : va_G} {G : Gam} {A : Nat → Prop} {call : Call} (h : CallOK l D G A infT call) : ∀ E n as M rs, call 342 E n as M = some rs → MOK l D G A yJ0_checkIndex_df160 w9_J0_checkIndex_df160 r9_J0_checkIndex_df160 E n as M rs := h 342
theorem ic_J1_charAt_3b067 {l : Launch} {D : va_G} {G : Gam} {A : Nat → Prop} {call : Call} (h : CallOK l D G A infT call) : ∀ E n as M rs, call 343 E n as M = some rs → MOK l D G A yJ1_charAt_3b067 w9_J1_charAt_3b067 r9_J1_charAt_3b067 E n as M rs := h 343
theorem ic_J3_checkIndex_8e157 {l : Launch} {D : va_G} {G : Gam} {A : Nat → Prop} {call : Call} (h : CallOK l D G A infT call) : ∀ E n as M rs, call 344 E n as M = some rs → MOK l D G A yJ3_checkIndex_8e157 w9_J3_checkIndex_8e157 r9_J3_checkIndex_8e157 E n as M rs := h 344
theorem ic_L_append {l : Launch} {D : va_G} {G : Gam} {A : Nat → Prop} {call : Call} (h : CallOK l D G A infT call) : ∀ E n as M rs, call 345 E n as M = some rs → MOK l D G A yL_append w9_L_append r9_L_append E n as M rs := h 345
theorem ic_L_truncate {l : Launch} {D : va_G} {G : Gam} {A : Nat → Prop} {call : Call} (h : CallOK l D G A infT call) : ∀ E n as M rs, call 346 E n as M = some rs → MOK l D G A yL_truncate w9_L_truncate r9_L_truncate E n as M rs := h 346
theorem ic_L_load {l : Launch} {D : va_G} {G : Gam} {A : Nat → Prop} {call : Call} (h : CallOK l D G A infT call) : ∀ E n as M rs, call 347 E n as M = some rs → MOK l D G A yL_load w9_L_load r9_L_load E n as M rs := h 347
theorem ic_L_executeCommands {l : Launch} {D : va_G} {G : Gam} {A : Nat → Prop} {call : Call} (h : CallOK l D G A infT call) : ∀ E n as M rs, call 348 E n as M = some rs → MOK l D G A yL_executeCommands w9_L_executeCommands r9_L_executeCommands E n as M rs := h 348
theorem ic_L_fogOf {l : Launch} {D : va_G} {G : Gam} {A : Nat → Prop} {call : Call} (h : CallOK l D G A infT call) : ∀ E n as M rs, call 349 E n as M = some rs → MOK l D G A yL_fogOf w9_L_fogOf r9_L_fogOf E n as M rs := h 349
theorem ic_L_delayOf {l : Launch} {D : va_G} {G : Gam} {A : Nat → Prop} {call : Call} (h : CallOK l D G A infT call) : ∀ E n as M rs, call 350 E n as M = some rs → MOK l D G A yL_delayOf w9_L_delayOf r9_L_delayOf E n as M rs := h 350
theorem ic_L_repeatsOf {l : Launch} {D : va_G} {G : Gam} {A : Nat → Prop} {call : Call} (h : CallOK l D G A infT call) : ∀ E n as M rs, call 351 E n as M = some rs → MOK l D G A yL_repeatsOf w9_L_repeatsOf r9_L_repeatsOf E n as M rs := h 351
theorem ic_L_reserveWage {l : Launch} {D : va_G} {G : Gam} {A : Nat → Prop} {call : Call} (h : CallOK l D G A infT call) : ∀ E n as M rs, call 352 E n as M = some rs → MOK l D G A yL_reserveWage w9_L_reserveWage r9_L_reserveWage E n as M rs := h 352
theorem ic_L_resistanceOf {l : Launch} {D : va_G} {G : Gam} {A : Nat → Prop} {call : Call} (h : CallOK l D G A infT call) : ∀ E n as M rs, call 353 E n as M = some rs → MOK l D G A yL_resistanceOf w9_L_resistanceOf r9_L_resistanceOf E n as M rs := h 353
theorem ic_L_savingsOf {l : Launch} {D : va_G} {G : Gam} {A : Nat → Prop} {call : Call} (h : CallOK l D G A infT call) : ∀ E n as M rs, call 354 E n as M = some rs → MOK l D G A yL_savingsOf w9_L_savingsOf r9_L_savingsOf E n as M rs := h 354
theorem ic_L_unpaidDays {l : Launch} {D : va_G} {G : Gam} {A : Nat → Prop} {call : Call} (h : CallOK l D G A infT call) : ∀ E n as M rs, call 355 E n as M = some rs → MOK l D G A yL_unpaidDays w9_L_unpaidDays r9_L_unpaidDays E n as M rs := h 355
theorem ic_L_employerOf {l : Launch} {D : va_G} {G : Gam} {A : Nat → Prop} {call : Call} (h : CallOK l D G A infT call) : ∀ E n as M rs, call 356 E n as M = some rs → MOK l D G A yL_employerOf w9_L_employerOf r9_L_employerOf E n as M rs := h 356
theorem ic_L_widthOf {l : Launch} {D : va_G} {G : Gam} {A : Nat → Prop} {call : Call} (h : CallOK l D G A infT call) : ∀ E n as M rs, call 357 E n as M = some rs → MOK l D G A yL_widthOf w9_L_widthOf r9_L_widthOf E n as M rs := h 357
theorem ic_L_postsOf {l : Launch} {D : va_G} {G : Gam} {A : Nat → Prop} {call : Call} (h : CallOK l D G A infT call) : ∀ E n as M rs, call 358 E n as M = some rs → MOK l D G A yL_postsOf w9_L_postsOf r9_L_postsOf E n as M rs := h 358
theorem ic_L_wageOf {l : Launch} {D : va_G} {G : Gam} {A : Nat → Prop} {call : Call} (h : CallOK l D G A infT call) : ∀ E n as M rs, call 359 E n as M = some rs → MOK l D G A yL_wageOf w9_L_wageOf r9_L_wageOf E n as M rs := h 359
theorem ic_L_purseOf {l : Launch} {D : va_G} {G : Gam} {A : Nat → Prop} {call : Call} (h : CallOK l D G A infT call) : ∀ E n as M rs, call 360 E n as M = some rs → MOK l D G A yL_purseOf w9_L_purseOf r9_L_purseOf E n as M rs := h 360
theorem ic_L_staffCount {l : Launch} {D : va_G} {G : Gam} {A : Nat → Prop} {call : Call} (h : CallOK l D G A infT call) : ∀ E n as M rs, call 361 E n as M = some rs → MOK l D G A yL_staffCount w9_L_staffCount r9_L_staffCount E n as M rs := h 361
theorem ic_L_staffMember {l : Launch} {D : va_G} {G : Gam} {A : Nat → Prop} {call : Call} (h : CallOK l D G A infT call) : ∀ E n as M rs, call 362 E n as M = some rs → MOK l D G A yL_staffMember w9_L_staffMember r9_L_staffMember E n as M rs := h 362
theorem ic_L_isTested {l : Launch} {D : va_G} {G : Gam} {A : Nat → Prop} {call : Call} (h : CallOK l D G A infT call) : ∀ E n as M rs, call 363 E n as M = some rs → MOK l D G A yL_isTested w9_L_isTested r9_L_isTested E n as M rs := h 363
theorem ic_L_seenScore {l : Launch} {D : va_G} {G : Gam} {A : Nat → Prop} {call : Call} (h : CallOK l D G A infT call) : ∀ E n as M rs, call 364 E n as M = some rs → MOK l D G A yL_seenScore w9_L_seenScore r9_L_seenScore E n as M rs := h 364
theorem ic_L_pairReason {l : Launch} {D : va_G} {G : Gam} {A : Nat → Prop} {call : Call} (h : CallOK l D G A infT call) : ∀ E n as M rs, call 365 E n as M = some rs → MOK l D G A yL_pairReason w9_L_pairReason r9_L_pairReason E n as M rs := h 365
theorem ic_L_preferredValley {l : Launch} {D : va_G} {G : Gam} {A : Nat → Prop} {call : Call} (h : CallOK l D G A infT call) : ∀ E n as M rs, call 366 E n as M = some rs → MOK l D G A yL_preferredValley w9_L_preferredValley r9_L_preferredValley E n as M rs := h 366
theorem ic_L_preferredEcho {l : Launch} {D : va_G} {G : Gam} {A : Nat → Prop} {call : Call} (h : CallOK l D G A infT call) : ∀ E n as M rs, call 367 E n as M = some rs → MOK l D G A yL_preferredEcho w9_L_preferredEcho r9_L_preferredEcho E n as M rs := h 367
theorem ic_L_fairResult {l : Launch} {D : va_G} {G : Gam} {A : Nat → Prop} {call : Call} (h : CallOK l D G A infT call) : ∀ E n as M rs, call 368 E n as M = some rs → MOK l D G A yL_fairResult w9_L_fairResult r9_L_fairResult E n as M rs := h 368
theorem ic_L_savingsAfter {l : Launch} {D : va_G} {G : Gam} {A : Nat → Prop} {call : Call} (h : CallOK l D G A infT call) : ∀ E n as M rs, call 369 E n as M = some rs → MOK l D G A yL_savingsAfter w9_L_savingsAfter r9_L_savingsAfter E n as M rs := h 369
theorem ic_L_purseAfter {l : Launch} {D : va_G} {G : Gam} {A : Nat → Prop} {call : Call} (h : CallOK l D G A infT call) : ∀ E n as M rs, call 370 E n as M = some rs → MOK l D G A yL_purseAfter w9_L_purseAfter r9_L_purseAfter E n as M rs := h 370
theorem ic_L_desertsIn {l : Launch} {D : va_G} {G : Gam} {A : Nat → Prop} {call : Call} (h : CallOK l D G A infT call) : ∀ E n as M rs, call 371 E n as M = some rs → MOK l D G A yL_desertsIn w9_L_desertsIn r9_L_desertsIn E n as M rs := h 371
theorem ic_L_leastWage {l : Launch} {D : va_G} {G : Gam} {A : Nat → Prop} {call : Call} (h : CallOK l D G A infT call) : ∀ E n as M rs, call 372 E n as M = some rs → MOK l D G A yL_leastWage w9_L_leastWage r9_L_leastWage E n as M rs := h 372
theorem ic_L_bestTest {l : Launch} {D : va_G} {G : Gam} {A : Nat → Prop} {call : Call} (h : CallOK l D G A infT call) : ∀ E n as M rs, call 373 E n as M = some rs → MOK l D G A yL_bestTest w9_L_bestTest r9_L_bestTest E n as M rs := h 373
theorem ic_L_daysServed {l : Launch} {D : va_G} {G : Gam} {A : Nat → Prop} {call : Call} (h : CallOK l D G A infT call) : ∀ E n as M rs, call 374 E n as M = some rs → MOK l D G A yL_daysServed w9_L_daysServed r9_L_daysServed E n as M rs := h 374
theorem ic_L_desertions {l : Launch} {D : va_G} {G : Gam} {A : Nat → Prop} {call : Call} (h : CallOK l D G A infT call) : ∀ E n as M rs, call 375 E n as M = some rs → MOK l D G A yL_desertions w9_L_desertions r9_L_desertions E n as M rs := h 375
theorem ic_L_repliesHeard {l : Launch} {D : va_G} {G : Gam} {A : Nat → Prop} {call : Call} (h : CallOK l D G A infT call) : ∀ E n as M rs, call 376 E n as M = some rs → MOK l D G A yL_repliesHeard w9_L_repliesHeard r9_L_repliesHeard E n as M rs := h 376
theorem ic_L_wagesPaid {l : Launch} {D : va_G} {G : Gam} {A : Nat → Prop} {call : Call} (h : CallOK l D G A infT call) : ∀ E n as M rs, call 377 E n as M = some rs → MOK l D G A yL_wagesPaid w9_L_wagesPaid r9_L_wagesPaid E n as M rs := h 377
theorem ic_L_passDays {l : Launch} {D : va_G} {G : Gam} {A : Nat → Prop} {call : Call} (h : CallOK l D G A infT call) : ∀ E n as M rs, call 378 E n as M = some rs → MOK l D G A yL_passDays w9_L_passDays r9_L_passDays E n as M rs := h 378
theorem ic_L_test {l : Launch} {D : va_G} {G : Gam} {A : Nat → Prop} {call : Call} (h : CallOK l D G A infT call) : ∀ E n as M rs, call 379 E n as M = some rs → MOK l D G A yL_test w9_L_test r9_L_test E n as M rs := h 379
theorem ic_L_dismiss {l : Launch} {D : va_G} {G : Gam} {A : Nat → Prop} {call : Call} (h : CallOK l D G A infT call) : ∀ E n as M rs, call 380 E n as M = some rs → MOK l D G A yL_dismiss w9_L_dismiss r9_L_dismiss E n as M rs := h 380
theorem ic_L_setWage {l : Launch} {D : va_G} {G : Gam} {A : Nat → Prop} {call : Call} (h : CallOK l D G A infT call) : ∀ E n as M rs, call 381 E n as M = some rs → MOK l D G A yL_setWage w9_L_setWage r9_L_setWage E n as M rs := h 381
theorem ic_L_fund {l : Launch} {D : va_G} {G : Gam} {A : Nat → Prop} {call : Call} (h : CallOK l D G A infT call) : ∀ E n as M rs, call 382 E n as M = some rs → MOK l D G A yL_fund w9_L_fund r9_L_fund E n as M rs := h 382
theorem ic_L_train {l : Launch} {D : va_G} {G : Gam} {A : Nat → Prop} {call : Call} (h : CallOK l D G A infT call) : ∀ E n as M rs, call 383 E n as M = some rs → MOK l D G A yL_train w9_L_train r9_L_train E n as M rs := h 383
theorem ic_L_undo {l : Launch} {D : va_G} {G : Gam} {A : Nat → Prop} {call : Call} (h : CallOK l D G A infT call) : ∀ E n as M rs, call 384 E n as M = some rs → MOK l D G A yL_undo w9_L_undo r9_L_undo E n as M rs := h 384
theorem ic_L_restore {l : Launch} {D : va_G} {G : Gam} {A : Nat → Prop} {call : Call} (h : CallOK l D G A infT call) : ∀ E n as M rs, call 385 E n as M = some rs → MOK l D G A yL_restore w9_L_restore r9_L_restore E n as M rs := h 385
