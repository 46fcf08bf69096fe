theorem nc2 {a : AV} (h : (Bool.rec true false (isC2 a) : Bool) = true) : isC2 a = false := by
  cases hc : isC2 a with
  | false => rfl
  | true => rw [hc] at h; cases h
theorem i32_lt (x y : Int32) : x < y ↔ x.toInt < y.toInt := Int32.lt_iff_toInt_lt
theorem i32_le (x y : Int32) : x ≤ y ↔ x.toInt ≤ y.toInt := Int32.le_iff_toInt_le
theorem i32_tri (x y : Int32) : x < y ∨ x = y ∨ y < x := by
  rcases Int.lt_trichotomy x.toInt y.toInt with h | h | h
  · exact Or.inl (Int32.lt_iff_toInt_lt.mpr h)
  · exact Or.inr (Or.inl (Int32.toInt_inj.mp h))
  · exact Or.inr (Or.inr (Int32.lt_iff_toInt_lt.mpr h))
theorem nthN_out : ∀ {l : List Nat} {d i : Nat}, l.length ≤ i → nthN l d i = d := by
  intro l
  induction l with
  | nil => intro d i _; rfl
  | cons x t ih =>
    intro d i h
    cases i with
    | zero => simp at h
    | succ i => exact ih (by simpa using h)
theorem cmp3_int {G : Gam} {ρ : List Nat} {a b : AV} {u v : Value} {E : Env9} {kl ke kg : Env9 → OR} {rs : List Res} (h : cmp3 a b E kl ke kg = some rs) (ha : cz G ρ a u) (hb : cz G ρ b v) : (∃ x, u = .int x) ∧ ∃ y, v = .int y := by
  rcases a with x | k | x | o | i | w | k | k
  · rcases b with y | k | y | o' | i | w | k | k
    · exact ⟨⟨_, ha⟩, ⟨_, hb⟩⟩
    · cases h
    · cases h
    · cases o' with
      | none => cases h
      | some o' => exact ⟨⟨_, ha⟩, ⟨_, hb⟩⟩
    all_goals cases h
  · cases h
  · cases h
  · cases o with
    | none => rcases b with y | k | y | o' | i | w | k | k <;> cases h
    | some o =>
      rcases b with y | k | y | o' | i | w | k | k
      · exact ⟨⟨_, ha⟩, ⟨_, hb⟩⟩
      · cases h
      · cases h
      · cases o' with
        | none => cases h
        | some o' => exact ⟨⟨_, ha⟩, ⟨_, hb⟩⟩
      all_goals cases h
  all_goals cases h
/-! one lemma an instruction: what the small machine does, the real one does -/
def WW (p : Program) (l : Launch) (e : Env) (R : Room) (s : State) (m : MethodId) (args : Array Value) (below : List Frame) (meth : Method) (c : Code) (Q : State → Prop) (D : va_G) (G : Gam) (A : Nat → Prop) (ρ0 : List Nat) (nL : Nat) (pc : Nat) (E : Env9) (n z : Nat) (L S : List AV) (M : Mem) : Prop :=
  ∀ (ρ : List Nat) (H : Heap) (locs : List Loc) (ls : Array Slot) (st : List Value), ρ0 <+: ρ → envR G E → memR D s G A ρ n M H → va_S A s.heap H locs → locR G ρ ls nL L → czs G ρ S st → W p l e R s m args below meth c H locs z z Q (F0 m pc ls st)
def KOK (p : Program) (l : Launch) (e : Env) (R : Room) (s : State) (m : MethodId) (args : Array Value) (below : List Frame) (meth : Method) (c : Code) (Q : State → Prop) (D : va_G) (G : Gam) (A : Nat → Prop) (ρ0 : List Nat) (nL : Nat) (Pe : Res → Prop) (pc : Nat) (K : KK) : Prop :=
  ∀ (E : Env9) (n z : Nat) (L S : List AV) (M : Mem) (rs : List Res), K E n z L S M = some rs → (∀ r ∈ rs, Pe r) → WW p l e R s m args below meth c Q D G A ρ0 nL pc E n z L S M
def Cx (cc : ByteArray) (own : String) (Ts : List Cond) (p : Program) (l : Launch) (s : State) (m : MethodId) (args : Array Value) (meth : Method) (c : Code) (D : va_G) (G : Gam) (A : Nat → Prop) (nL : Nat) : Prop :=
  p.tables.exec = Jvm.exec ∧ c.code = cc ∧ c.maxLocals = nL ∧ s.vm.findClass own = some m.cls ∧ (∀ w ∈ Ts, w.before args s = true) ∧ va_K D vwCl [] s ∧ (∀ q, s.heap.size ≤ q → A q)
section OPS
variable {p : Program} {l : Launch} {e : Env} {R : Room} {s : State} {m : MethodId} {args : Array Value} {below : List Frame} {meth : Method} {c : Code} {Q : State → Prop} {D : va_G} {G : Gam} {A : Nat → Prop} {ρ0 : List Nat} {nL : Nat} {Pe : Res → Prop} {cc : ByteArray} {own : String} {Ts : List Cond} {pc : Nat} {K : KK}
theorem ld_int {ρ : List Nat} {ls : Array Slot} {L : List AV} {i : Nat} {f : AV → Bool} (hL : locR G ρ ls nL L) (hf : f (vW 3) = false) (h : f (nth L i) = true) : ∃ v, cz G ρ (nth L i) v ∧ ls[i]? = some (.val v) := by
  rcases hL.2.2.2 i with q | q
  · rw [q, hf] at h; cases h
  · exact q
theorem loc_lt {ρ : List Nat} {ls : Array Slot} {L : List AV} (hL : locR G ρ ls nL L) {i : Nat} (h : nth L i ≠ vW 3) : i < nL := by
  rw [← hL.2.2.1]
  exact Nat.lt_of_not_le fun q => h (nth_out q)
theorem K_call (C : Cx cc own Ts p l s m args meth c D G A nL) {call : Call} {x : AV} {v : Value} (hx : ∀ ρ, ρ0 <+: ρ → cz G ρ x v) {pc' : Nat} (row : ∀ (H : Heap) (locs : List Loc) (z : Nat) (ls : Array Slot) (st : List Value), W p l e R s m args below meth c H locs z z Q (F0 m pc' ls (v :: st)) → W p l e R s m args below meth c H locs z z Q (F0 m pc ls st)) (hK : KOK p l e R s m args below meth c Q D G A ρ0 nL Pe pc' K) : KOK p l e R s m args below meth c Q D G A ρ0 nL Pe pc (op_push x call K) :=
  fun E n z L S M rs h he ρ H locs ls st h0 hE hM hS hL hs => row H locs z ls st (hK E n z L (x :: S) M rs h he ρ H locs ls (v :: st) h0 hE hM hS hL ⟨hx ρ h0, hs⟩)
theorem ok_iconst (C : Cx cc own Ts p l s m args meth c D G A nL) {call : Call} {n : Int} {x : Nat} (hdg : decode cc pc = .ok (.iconst n, 1)) (hv : Int32.ofInt n = nI x) (hK : KOK p l e R s m args below meth c Q D G A ρ0 nL Pe (pc + 1) K) : KOK p l e R s m args below meth c Q D G A ρ0 nL Pe pc (op_push (vI x) call K) := by
  exact K_call C (v := .int (nI x)) (fun _ _ => rfl) (fun H locs z ls st k => lv_iconst C.1 C.2.1 hdg hv k) hK
theorem ok_bipush (C : Cx cc own Ts p l s m args meth c D G A nL) {call : Call} {n : Int} {x : Nat} (hdg : decode cc pc = .ok (.bipush n, 2)) (hv : (Int8.ofInt n).toInt32 = nI x) (hK : KOK p l e R s m args below meth c Q D G A ρ0 nL Pe (pc + 2) K) : KOK p l e R s m args below meth c Q D G A ρ0 nL Pe pc (op_push (vI x) call K) := by
  exact K_call C (v := .int (nI x)) (fun _ _ => rfl) (fun H locs z ls st k => lv_bipush C.1 C.2.1 hdg hv k) hK
theorem ok_sipush (C : Cx cc own Ts p l s m args meth c D G A nL) {call : Call} {n : Int} {x : Nat} (hdg : decode cc pc = .ok (.sipush n, 3)) (hv : (Int16.ofInt n).toInt32 = nI x) (hK : KOK p l e R s m args below meth c Q D G A ρ0 nL Pe (pc + 3) K) : KOK p l e R s m args below meth c Q D G A ρ0 nL Pe pc (op_push (vI x) call K) := by
  exact K_call C (v := .int (nI x)) (fun _ _ => rfl) (fun H locs z ls st k => lv_sipush C.1 C.2.1 hdg hv k) hK
theorem ok_lconst (C : Cx cc own Ts p l s m args meth c D G A nL) {call : Call} {n : Fin 2} {x : Nat} (hdg : decode cc pc = .ok (.lconst n, 1)) (hv : Int64.ofNat (n : Nat) = lN x) (hK : KOK p l e R s m args below meth c Q D G A ρ0 nL Pe (pc + 1) K) : KOK p l e R s m args below meth c Q D G A ρ0 nL Pe pc (op_push (vJ x) call K) := by
  exact K_call C (v := .long (lN x)) (fun _ _ => rfl) (fun H locs z ls st k => lv_lconst C.1 C.2.1 hdg hv k) hK
theorem ok_ldc2 (C : Cx cc own Ts p l s m args meth c D G A nL) {call : Call} {index : Nat} {x : Nat} (hc : (Cond.constantLong own index (lN x)).before args s = true) (hdg : decode cc pc = .ok (.ldc2_w index, 3)) (hK : KOK p l e R s m args below meth c Q D G A ρ0 nL Pe (pc + 3) K) : KOK p l e R s m args below meth c Q D G A ρ0 nL Pe pc (op_push (vJ x) call K) := by
  exact K_call C (v := .long (lN x)) (fun _ _ => rfl) (fun H locs z ls st k => lv_ldc2 C.1 C.2.1 C.2.2.2.1 hc hdg k) hK
theorem ok_dconst0 (C : Cx cc own Ts p l s m args meth c D G A nL) {call : Call} (hdg : decode cc pc = .ok (.dconst 0, 1)) (hK : KOK p l e R s m args below meth c Q D G A ρ0 nL Pe (pc + 1) K) : KOK p l e R s m args below meth c Q D G A ρ0 nL Pe pc (op_push (vD 0) call K) := by
  exact K_call C (v := .double FP.dconst0) (fun _ _ => rfl) (fun H locs z ls st k => lv_dconst0 C.1 C.2.1 hdg k) hK
theorem ok_fconst0 (C : Cx cc own Ts p l s m args meth c D G A nL) {call : Call} (hdg : decode cc pc = .ok (.fconst 0, 1)) (hK : KOK p l e R s m args below meth c Q D G A ρ0 nL Pe (pc + 1) K) : KOK p l e R s m args below meth c Q D G A ρ0 nL Pe pc (op_push (vF 0) call K) := by
  exact K_call C (v := .float FP.fconst0) (fun _ _ => rfl) (fun H locs z ls st k => lv_fconst0 C.1 C.2.1 hdg k) hK
theorem ok_ldcS (C : Cx cc own Ts p l s m args meth c D G A nL) {call : Call} {index : Nat} {tx : String} {w : Nat} (hw : 4 ≤ w ∧ w < 5000) (hR : vk_R own index tx (G.2.1 (w - 4)) s) (hdg : decode cc pc = .ok (.ldc index, 2)) (hK : KOK p l e R s m args below meth c Q D G A ρ0 nL Pe (pc + 2) K) : KOK p l e R s m args below meth c Q D G A ρ0 nL Pe pc (op_push (vW w) call K) := by
  exact K_call C (v := .ref (G.2.1 (w - 4))) (fun _ _ => Or.inr (Or.inr (Or.inr (Or.inl ⟨hw.1, hw.2, rfl⟩)))) (fun H locs z ls st k => va_ldcS C.1 C.2.1 C.2.2.2.1 hR hdg k) hK
theorem ok_ldcSW (C : Cx cc own Ts p l s m args meth c D G A nL) {call : Call} {index : Nat} {tx : String} {w : Nat} (hw : 4 ≤ w ∧ w < 5000) (hR : vk_R own index tx (G.2.1 (w - 4)) s) (hdg : decode cc pc = .ok (.ldc_w index, 3)) (hK : KOK p l e R s m args below meth c Q D G A ρ0 nL Pe (pc + 3) K) : KOK p l e R s m args below meth c Q D G A ρ0 nL Pe pc (op_push (vW w) call K) := by
  exact K_call C (v := .ref (G.2.1 (w - 4))) (fun _ _ => Or.inr (Or.inr (Or.inr (Or.inl ⟨hw.1, hw.2, rfl⟩)))) (fun H locs z ls st k => by
    intro T hT X
    obtain ⟨t, a1, b1⟩ := k T hT X
    exact ⟨t, X.ldcStringW C.1 C.2.2.2.1 (text := tx) (a := G.2.1 (w - 4)) hR.1 hR.2 (g := F0 m pc ls st) rfl (by rw [C.2.1]; exact hdg) t a1, b1⟩) hK
theorem ok_iload_n (C : Cx cc own Ts p l s m args meth c D G A nL) {call : Call} {k : Fin 4} {i : Nat} (hdg : decode cc pc = .ok (.iload_n k, 1)) (hi : (k : Nat) = i) (hK : KOK p l e R s m args below meth c Q D G A ρ0 nL Pe (pc + 1) K) : KOK p l e R s m args below meth c Q D G A ρ0 nL Pe pc (op_ld isI i call K) := by
  intro E n z L S M rs h he ρ H locs ls st h0 hE hM hS hL hs
  obtain ⟨h1, h2⟩ := gd_some (show gd (isI (nth L i)) (K E n z L (nth L i :: S) M) = some rs from h)
  obtain ⟨v, hv, hls⟩ := ld_int hL (f := isI) rfl h1
  obtain ⟨x, rfl⟩ := cz_isI hv h1
  exact lv_iload_n C.1 C.2.1 hdg hi hls (hK E n z L _ M rs h2 he ρ H locs ls (.int x :: st) h0 hE hM hS hL ⟨hv, hs⟩)
theorem ok_lload_n (C : Cx cc own Ts p l s m args meth c D G A nL) {call : Call} {k : Fin 4} {i : Nat} (hdg : decode cc pc = .ok (.lload_n k, 1)) (hi : (k : Nat) = i) (hK : KOK p l e R s m args below meth c Q D G A ρ0 nL Pe (pc + 1) K) : KOK p l e R s m args below meth c Q D G A ρ0 nL Pe pc (op_ld isJ i call K) := by
  intro E n z L S M rs h he ρ H locs ls st h0 hE hM hS hL hs
  obtain ⟨h1, h2⟩ := gd_some (show gd (isJ (nth L i)) (K E n z L (nth L i :: S) M) = some rs from h)
  obtain ⟨v, hv, hls⟩ := ld_int hL (f := isJ) rfl h1
  obtain ⟨x, rfl⟩ := cz_isJ hv h1
  exact lv_lload_n C.1 C.2.1 hdg hi hls (hK E n z L _ M rs h2 he ρ H locs ls (.long x :: st) h0 hE hM hS hL ⟨hv, hs⟩)
theorem ok_aload_n (C : Cx cc own Ts p l s m args meth c D G A nL) {call : Call} {k : Fin 4} {i : Nat} (hdg : decode cc pc = .ok (.aload_n k, 1)) (hi : (k : Nat) = i) (hK : KOK p l e R s m args below meth c Q D G A ρ0 nL Pe (pc + 1) K) : KOK p l e R s m args below meth c Q D G A ρ0 nL Pe pc (op_ld isA i call K) := by
  intro E n z L S M rs h he ρ H locs ls st h0 hE hM hS hL hs
  obtain ⟨h1, h2⟩ := gd_some (show gd (isA (nth L i)) (K E n z L (nth L i :: S) M) = some rs from h)
  obtain ⟨v, hv, hls⟩ := ld_int hL (f := isA) rfl h1
  rcases cz_isA hv h1 with rfl | ⟨q, rfl⟩
  · exact lv_aload_nN C.1 C.2.1 hdg hi hls (hK E n z L _ M rs h2 he ρ H locs ls (.null :: st) h0 hE hM hS hL ⟨hv, hs⟩)
  · exact lv_aload_n C.1 C.2.1 hdg hi hls (hK E n z L _ M rs h2 he ρ H locs ls (.ref q :: st) h0 hE hM hS hL ⟨hv, hs⟩)
theorem ok_iload (C : Cx cc own Ts p l s m args meth c D G A nL) {call : Call} {i : Nat} (hdg : decode cc pc = .ok (.iload i, 2)) (hK : KOK p l e R s m args below meth c Q D G A ρ0 nL Pe (pc + 2) K) : KOK p l e R s m args below meth c Q D G A ρ0 nL Pe pc (op_ld isI i call K) := by
  intro E n z L S M rs h he ρ H locs ls st h0 hE hM hS hL hs
  obtain ⟨h1, h2⟩ := gd_some (show gd (isI (nth L i)) (K E n z L (nth L i :: S) M) = some rs from h)
  obtain ⟨v, hv, hls⟩ := ld_int hL (f := isI) rfl h1
  obtain ⟨x, rfl⟩ := cz_isI hv h1
  exact lv_iload C.1 C.2.1 hdg hls (hK E n z L _ M rs h2 he ρ H locs ls (.int x :: st) h0 hE hM hS hL ⟨hv, hs⟩)
theorem ok_lload (C : Cx cc own Ts p l s m args meth c D G A nL) {call : Call} {i : Nat} (hdg : decode cc pc = .ok (.lload i, 2)) (hK : KOK p l e R s m args below meth c Q D G A ρ0 nL Pe (pc + 2) K) : KOK p l e R s m args below meth c Q D G A ρ0 nL Pe pc (op_ld isJ i call K) := by
  intro E n z L S M rs h he ρ H locs ls st h0 hE hM hS hL hs
  obtain ⟨h1, h2⟩ := gd_some (show gd (isJ (nth L i)) (K E n z L (nth L i :: S) M) = some rs from h)
  obtain ⟨v, hv, hls⟩ := ld_int hL (f := isJ) rfl h1
  obtain ⟨x, rfl⟩ := cz_isJ hv h1
  exact lv_lload C.1 C.2.1 hdg hls (hK E n z L _ M rs h2 he ρ H locs ls (.long x :: st) h0 hE hM hS hL ⟨hv, hs⟩)
theorem ok_aload (C : Cx cc own Ts p l s m args meth c D G A nL) {call : Call} {i : Nat} (hdg : decode cc pc = .ok (.aload i, 2)) (hK : KOK p l e R s m args below meth c Q D G A ρ0 nL Pe (pc + 2) K) : KOK p l e R s m args below meth c Q D G A ρ0 nL Pe pc (op_ld isA i call K) := by
  intro E n z L S M rs h he ρ H locs ls st h0 hE hM hS hL hs
  obtain ⟨h1, h2⟩ := gd_some (show gd (isA (nth L i)) (K E n z L (nth L i :: S) M) = some rs from h)
  obtain ⟨v, hv, hls⟩ := ld_int hL (f := isA) rfl h1
  rcases cz_isA hv h1 with rfl | ⟨q, rfl⟩
  · exact lv_aloadN C.1 C.2.1 hdg hls (hK E n z L _ M rs h2 he ρ H locs ls (.null :: st) h0 hE hM hS hL ⟨hv, hs⟩)
  · exact lv_aload C.1 C.2.1 hdg hls (hK E n z L _ M rs h2 he ρ H locs ls (.ref q :: st) h0 hE hM hS hL ⟨hv, hs⟩)
theorem ok_dload (C : Cx cc own Ts p l s m args meth c D G A nL) {call : Call} {i : Nat} (hdg : decode cc pc = .ok (.dload i, 2)) (hK : KOK p l e R s m args below meth c Q D G A ρ0 nL Pe (pc + 2) K) : KOK p l e R s m args below meth c Q D G A ρ0 nL Pe pc (op_ld isD i call K) := by
  intro E n z L S M rs h he ρ H locs ls st h0 hE hM hS hL hs
  obtain ⟨h1, h2⟩ := gd_some (show gd (isD (nth L i)) (K E n z L (nth L i :: S) M) = some rs from h)
  obtain ⟨v, hv, hls⟩ := ld_int hL (f := isD) rfl h1
  obtain ⟨x, rfl⟩ := cz_isD hv h1
  exact lv_dload C.1 C.2.1 hdg hls (hK E n z L _ M rs h2 he ρ H locs ls (.double x :: st) h0 hE hM hS hL ⟨hv, hs⟩)
theorem ok_istore_n (C : Cx cc own Ts p l s m args meth c D G A nL) {call : Call} {k : Fin 4} {i : Nat} (hdg : decode cc pc = .ok (.istore_n k, 1)) (hi : (k : Nat) = i) (hn : i < nL) (hK : KOK p l e R s m args below meth c Q D G A ρ0 nL Pe (pc + 1) K) : KOK p l e R s m args below meth c Q D G A ρ0 nL Pe pc (op_st isI i call K) := by
  intro E n z L S M rs h he ρ H locs ls st h0 hE hM hS hL hs
  cases S with
  | nil => cases h
  | cons a S =>
    obtain ⟨h1, h2⟩ := gd_some (show gd (isI a) (gd (lk2 L i) (K E n z (nst L i a) S M)) = some rs from h)
    obtain ⟨h3, h4⟩ := gd_some h2
    have hs0 := hs
    clear hs
    obtain ⟨v, st, rfl, hv, hs⟩ := czs_cons hs0
    obtain ⟨lv, hlv, hcov⟩ := locR_list hL
    obtain ⟨x, rfl⟩ := cz_isI hv h1
    exact lv_istore_n C.1 C.2.1 hdg hi hlv hn rfl (fun ls' hl' => hK E n z _ S M rs h4 he ρ H locs ls' st h0 hE hM hS (locR_st hcov hL.2.2.1 h3 hv hl') hs)
theorem ok_lstore_n (C : Cx cc own Ts p l s m args meth c D G A nL) {call : Call} {k : Fin 4} {i : Nat} (hdg : decode cc pc = .ok (.lstore_n k, 1)) (hi : (k : Nat) = i) (hn : i + 1 < nL) (hK : KOK p l e R s m args below meth c Q D G A ρ0 nL Pe (pc + 1) K) : KOK p l e R s m args below meth c Q D G A ρ0 nL Pe pc (op_st2 isJ i call K) := by
  intro E n z L S M rs h he ρ H locs ls st h0 hE hM hS hL hs
  cases S with
  | nil => cases h
  | cons a S =>
    obtain ⟨h1, h2⟩ := gd_some (show gd (isJ a) (gd (lk2 L i) (K E n z (nst (nst L i a) (i + 1) (vW 3)) S M)) = some rs from h)
    obtain ⟨h3, h4⟩ := gd_some h2
    have hs0 := hs
    clear hs
    obtain ⟨v, st, rfl, hv, hs⟩ := czs_cons hs0
    obtain ⟨lv, hlv, hcov⟩ := locR_list hL
    obtain ⟨x, rfl⟩ := cz_isJ hv h1
    exact lv_lstore_n C.1 C.2.1 hdg hi hlv hn rfl (fun ls' hl' => hK E n z _ S M rs h4 he ρ H locs ls' st h0 hE hM hS (locR_st2 hcov hL.2.2.1 h3 hv hl') hs)
theorem ok_astore_n (C : Cx cc own Ts p l s m args meth c D G A nL) {call : Call} {k : Fin 4} {i : Nat} (hdg : decode cc pc = .ok (.astore_n k, 1)) (hi : (k : Nat) = i) (hn : i < nL) (hK : KOK p l e R s m args below meth c Q D G A ρ0 nL Pe (pc + 1) K) : KOK p l e R s m args below meth c Q D G A ρ0 nL Pe pc (op_st isA i call K) := by
  intro E n z L S M rs h he ρ H locs ls st h0 hE hM hS hL hs
  cases S with
  | nil => cases h
  | cons a S =>
    obtain ⟨h1, h2⟩ := gd_some (show gd (isA a) (gd (lk2 L i) (K E n z (nst L i a) S M)) = some rs from h)
    obtain ⟨h3, h4⟩ := gd_some h2
    have hs0 := hs
    clear hs
    obtain ⟨v, st, rfl, hv, hs⟩ := czs_cons hs0
    obtain ⟨lv, hlv, hcov⟩ := locR_list hL
    rcases cz_isA hv h1 with rfl | ⟨q, rfl⟩
    · exact lv_astore_nN C.1 C.2.1 hdg hi hlv hn rfl (fun ls' hl' => hK E n z _ S M rs h4 he ρ H locs ls' st h0 hE hM hS (locR_st hcov hL.2.2.1 h3 hv hl') hs)
    · exact lv_astore_n C.1 C.2.1 hdg hi hlv hn rfl (fun ls' hl' => hK E n z _ S M rs h4 he ρ H locs ls' st h0 hE hM hS (locR_st hcov hL.2.2.1 h3 hv hl') hs)
theorem ok_istore (C : Cx cc own Ts p l s m args meth c D G A nL) {call : Call} {i : Nat} (hdg : decode cc pc = .ok (.istore i, 2)) (hn : i < nL) (hK : KOK p l e R s m args below meth c Q D G A ρ0 nL Pe (pc + 2) K) : KOK p l e R s m args below meth c Q D G A ρ0 nL Pe pc (op_st isI i call K) := by
  intro E n z L S M rs h he ρ H locs ls st h0 hE hM hS hL hs
  cases S with
  | nil => cases h
  | cons a S =>
    obtain ⟨h1, h2⟩ := gd_some (show gd (isI a) (gd (lk2 L i) (K E n z (nst L i a) S M)) = some rs from h)
    obtain ⟨h3, h4⟩ := gd_some h2
    have hs0 := hs
    clear hs
    obtain ⟨v, st, rfl, hv, hs⟩ := czs_cons hs0
    obtain ⟨lv, hlv, hcov⟩ := locR_list hL
    obtain ⟨x, rfl⟩ := cz_isI hv h1
    exact lv_istore C.1 C.2.1 hdg hlv hn rfl (fun ls' hl' => hK E n z _ S M rs h4 he ρ H locs ls' st h0 hE hM hS (locR_st hcov hL.2.2.1 h3 hv hl') hs)
theorem ok_lstore (C : Cx cc own Ts p l s m args meth c D G A nL) {call : Call} {i : Nat} (hdg : decode cc pc = .ok (.lstore i, 2)) (hn : i + 1 < nL) (hK : KOK p l e R s m args below meth c Q D G A ρ0 nL Pe (pc + 2) K) : KOK p l e R s m args below meth c Q D G A ρ0 nL Pe pc (op_st2 isJ i call K) := by
  intro E n z L S M rs h he ρ H locs ls st h0 hE hM hS hL hs
  cases S with
  | nil => cases h
  | cons a S =>
    obtain ⟨h1, h2⟩ := gd_some (show gd (isJ a) (gd (lk2 L i) (K E n z (nst (nst L i a) (i + 1) (vW 3)) S M)) = some rs from h)
    obtain ⟨h3, h4⟩ := gd_some h2
    have hs0 := hs
    clear hs
    obtain ⟨v, st, rfl, hv, hs⟩ := czs_cons hs0
    obtain ⟨lv, hlv, hcov⟩ := locR_list hL
    obtain ⟨x, rfl⟩ := cz_isJ hv h1
    exact lv_lstore C.1 C.2.1 hdg hlv hn rfl (fun ls' hl' => hK E n z _ S M rs h4 he ρ H locs ls' st h0 hE hM hS (locR_st2 hcov hL.2.2.1 h3 hv hl') hs)
theorem ok_astore (C : Cx cc own Ts p l s m args meth c D G A nL) {call : Call} {i : Nat} (hdg : decode cc pc = .ok (.astore i, 2)) (hn : i < nL) (hK : KOK p l e R s m args below meth c Q D G A ρ0 nL Pe (pc + 2) K) : KOK p l e R s m args below meth c Q D G A ρ0 nL Pe pc (op_st isA i call K) := by
  intro E n z L S M rs h he ρ H locs ls st h0 hE hM hS hL hs
  cases S with
  | nil => cases h
  | cons a S =>
    obtain ⟨h1, h2⟩ := gd_some (show gd (isA a) (gd (lk2 L i) (K E n z (nst L i a) S M)) = some rs from h)
    obtain ⟨h3, h4⟩ := gd_some h2
    have hs0 := hs
    clear hs
    obtain ⟨v, st, rfl, hv, hs⟩ := czs_cons hs0
    obtain ⟨lv, hlv, hcov⟩ := locR_list hL
    rcases cz_isA hv h1 with rfl | ⟨q, rfl⟩
    · exact lv_astoreN C.1 C.2.1 hdg hlv hn rfl (fun ls' hl' => hK E n z _ S M rs h4 he ρ H locs ls' st h0 hE hM hS (locR_st hcov hL.2.2.1 h3 hv hl') hs)
    · exact lv_astore C.1 C.2.1 hdg hlv hn rfl (fun ls' hl' => hK E n z _ S M rs h4 he ρ H locs ls' st h0 hE hM hS (locR_st hcov hL.2.2.1 h3 hv hl') hs)
theorem ok_dstore (C : Cx cc own Ts p l s m args meth c D G A nL) {call : Call} {i : Nat} (hdg : decode cc pc = .ok (.dstore i, 2)) (hn : i + 1 < nL) (hK : KOK p l e R s m args below meth c Q D G A ρ0 nL Pe (pc + 2) K) : KOK p l e R s m args below meth c Q D G A ρ0 nL Pe pc (op_st2 isD i call K) := by
  intro E n z L S M rs h he ρ H locs ls st h0 hE hM hS hL hs
  cases S with
  | nil => cases h
  | cons a S =>
    obtain ⟨h1, h2⟩ := gd_some (show gd (isD a) (gd (lk2 L i) (K E n z (nst (nst L i a) (i + 1) (vW 3)) S M)) = some rs from h)
    obtain ⟨h3, h4⟩ := gd_some h2
    have hs0 := hs
    clear hs
    obtain ⟨v, st, rfl, hv, hs⟩ := czs_cons hs0
    obtain ⟨lv, hlv, hcov⟩ := locR_list hL
    obtain ⟨x, rfl⟩ := cz_isD hv h1
    exact lv_dstore C.1 C.2.1 hdg hlv hn rfl (fun ls' hl' => hK E n z _ S M rs h4 he ρ H locs ls' st h0 hE hM hS (locR_st2 hcov hL.2.2.1 h3 hv hl') hs)
theorem ok_iinc (C : Cx cc own Ts p l s m args meth c D G A nL) {call : Call} {i x : Nat} {d : Int} (hdg : decode cc pc = .ok (.iinc i d, 3)) (hv : Int32.ofInt d = nI x) (hK : KOK p l e R s m args below meth c Q D G A ρ0 nL Pe (pc + 3) K) : KOK p l e R s m args below meth c Q D G A ρ0 nL Pe pc (op_iinc i x call K) := by
  intro E n z L S M rs h he ρ H locs ls st h0 hE hM hS hL hs
  obtain ⟨h1, h2⟩ := gd_some (show gd (isI (nth L i)) (gd (lk2 L i) (addK (nth L i) (vI x) fun r => K E n z (nst L i r) S M)) = some rs from h)
  obtain ⟨h3, h4⟩ := gd_some h2
  obtain ⟨lv, hlv, hcov⟩ := locR_list hL
  have hne : nth L i ≠ vW 3 := fun q => by rw [q] at h1; cases h1
  rcases hcov i with q | ⟨v, hv1, hmem⟩
  · exact absurd q hne
  obtain ⟨y, rfl⟩ := cz_isI hv1 h1
  obtain ⟨w, hw, hcw⟩ := addK_ok h4 hv1 (show cz G ρ (vI x) (.int (nI x)) from rfl)
  obtain ⟨k, hk⟩ := List.getElem?_of_mem hmem
  exact lv_iinc C.1 C.2.1 hdg hlv hk (by rw [hv]) (loc_lt hL hne) rfl (fun ls' hl' => hK E n z _ S M rs hw he ρ H locs ls' st h0 hE hM hS (locR_st hcov hL.2.2.1 h3 hcw hl') hs)
theorem ok_iadd (C : Cx cc own Ts p l s m args meth c D G A nL) {call : Call} (hdg : decode cc pc = .ok (.iadd, 1)) (hK : KOK p l e R s m args below meth c Q D G A ρ0 nL Pe (pc + 1) K) : KOK p l e R s m args below meth c Q D G A ρ0 nL Pe pc (op_add call K) := by
  intro E n z L S M rs h he ρ H locs ls st h0 hE hM hS hL hs
  rcases S with _ | ⟨b, _ | ⟨a, S⟩⟩
  · cases h
  · cases h
  obtain ⟨h1, h2⟩ := gd_some (show gd (isI a) (gd (isI b) (addK a b fun r => K E n z L (r :: S) M)) = some rs from h)
  obtain ⟨h3, h4⟩ := gd_some h2
  have hs0 := hs
  clear hs
  obtain ⟨v, st1, rfl, hv, hs1⟩ := czs_cons hs0
  obtain ⟨u, st, rfl, hu, hs⟩ := czs_cons hs1
  obtain ⟨y, rfl⟩ := cz_isI hv h3
  obtain ⟨x, rfl⟩ := cz_isI hu h1
  obtain ⟨w, hw, hcw⟩ := addK_ok h4 hu hv
  exact lv_iadd C.1 C.2.1 hdg (hK E n z L _ M rs hw he ρ H locs ls _ h0 hE hM hS hL ⟨hcw, hs⟩)
noncomputable def g_sub (x y : Nat) : Nat := (x + (4294967296 - y % 4294967296)) % 4294967296
noncomputable def g_imul (x y : Nat) : Nat := toN (nI x * nI y)
noncomputable def g_iand (x y : Nat) : Nat := toN (nI x &&& nI y)
noncomputable def g_ior (x y : Nat) : Nat := toN (nI x ||| nI y)
noncomputable def g_ixor (x y : Nat) : Nat := toN (nI x ^^^ nI y)
noncomputable def g_ishl (x y : Nat) : Nat := toN (nI x <<< (nI y &&& 31))
noncomputable def g_ishr (x y : Nat) : Nat := toN (nI x >>> (nI y &&& 31))
theorem ok_isub (C : Cx cc own Ts p l s m args meth c D G A nL) {call : Call} (hdg : decode cc pc = .ok (.isub, 1)) (hK : KOK p l e R s m args below meth c Q D G A ρ0 nL Pe (pc + 1) K) : KOK p l e R s m args below meth c Q D G A ρ0 nL Pe pc (op_bin g_sub call K) := by
  intro E n z L S M rs h he ρ H locs ls st h0 hE hM hS hL hs
  rcases S with _ | ⟨b, _ | ⟨a, S⟩⟩
  · cases h
  · cases h
  obtain ⟨h1, h2⟩ := gd_some (show gd (isI a) (gd (isI b) (biK g_sub a b fun r => K E n z L (r :: S) M)) = some rs from h)
  obtain ⟨h3, h4⟩ := gd_some h2
  have hs0 := hs
  clear hs
  obtain ⟨v, st1, rfl, hv, hs1⟩ := czs_cons hs0
  obtain ⟨u, st, rfl, hu, hs⟩ := czs_cons hs1
  obtain ⟨y, rfl⟩ := cz_isI hv h3
  obtain ⟨x, rfl⟩ := cz_isI hu h1
  obtain ⟨w, hw, hcw⟩ := biK_ok (op := fun x y => x - y) h4 hu hv nI_sub
  exact lv_isub C.1 C.2.1 hdg (hK E n z L _ M rs hw he ρ H locs ls _ h0 hE hM hS hL ⟨hcw, hs⟩)
theorem ok_imul (C : Cx cc own Ts p l s m args meth c D G A nL) {call : Call} (hdg : decode cc pc = .ok (.imul, 1)) (hK : KOK p l e R s m args below meth c Q D G A ρ0 nL Pe (pc + 1) K) : KOK p l e R s m args below meth c Q D G A ρ0 nL Pe pc (op_bin g_imul call K) := by
  intro E n z L S M rs h he ρ H locs ls st h0 hE hM hS hL hs
  rcases S with _ | ⟨b, _ | ⟨a, S⟩⟩
  · cases h
  · cases h
  obtain ⟨h1, h2⟩ := gd_some (show gd (isI a) (gd (isI b) (biK g_imul a b fun r => K E n z L (r :: S) M)) = some rs from h)
  obtain ⟨h3, h4⟩ := gd_some h2
  have hs0 := hs
  clear hs
  obtain ⟨v, st1, rfl, hv, hs1⟩ := czs_cons hs0
  obtain ⟨u, st, rfl, hu, hs⟩ := czs_cons hs1
  obtain ⟨y, rfl⟩ := cz_isI hv h3
  obtain ⟨x, rfl⟩ := cz_isI hu h1
  obtain ⟨w, hw, hcw⟩ := biK_ok (op := fun x y => x * y) h4 hu hv (fun u v => nI_toN _)
  exact lv_imul C.1 C.2.1 hdg (hK E n z L _ M rs hw he ρ H locs ls _ h0 hE hM hS hL ⟨hcw, hs⟩)
theorem ok_iand (C : Cx cc own Ts p l s m args meth c D G A nL) {call : Call} (hdg : decode cc pc = .ok (.iand, 1)) (hK : KOK p l e R s m args below meth c Q D G A ρ0 nL Pe (pc + 1) K) : KOK p l e R s m args below meth c Q D G A ρ0 nL Pe pc (op_bin g_iand call K) := by
  intro E n z L S M rs h he ρ H locs ls st h0 hE hM hS hL hs
  rcases S with _ | ⟨b, _ | ⟨a, S⟩⟩
  · cases h
  · cases h
  obtain ⟨h1, h2⟩ := gd_some (show gd (isI a) (gd (isI b) (biK g_iand a b fun r => K E n z L (r :: S) M)) = some rs from h)
  obtain ⟨h3, h4⟩ := gd_some h2
  have hs0 := hs
  clear hs
  obtain ⟨v, st1, rfl, hv, hs1⟩ := czs_cons hs0
  obtain ⟨u, st, rfl, hu, hs⟩ := czs_cons hs1
  obtain ⟨y, rfl⟩ := cz_isI hv h3
  obtain ⟨x, rfl⟩ := cz_isI hu h1
  obtain ⟨w, hw, hcw⟩ := biK_ok (op := fun x y => x &&& y) h4 hu hv (fun u v => nI_toN _)
  exact lv_iand C.1 C.2.1 hdg (hK E n z L _ M rs hw he ρ H locs ls _ h0 hE hM hS hL ⟨hcw, hs⟩)
theorem ok_ior (C : Cx cc own Ts p l s m args meth c D G A nL) {call : Call} (hdg : decode cc pc = .ok (.ior, 1)) (hK : KOK p l e R s m args below meth c Q D G A ρ0 nL Pe (pc + 1) K) : KOK p l e R s m args below meth c Q D G A ρ0 nL Pe pc (op_bin g_ior call K) := by
  intro E n z L S M rs h he ρ H locs ls st h0 hE hM hS hL hs
  rcases S with _ | ⟨b, _ | ⟨a, S⟩⟩
  · cases h
  · cases h
  obtain ⟨h1, h2⟩ := gd_some (show gd (isI a) (gd (isI b) (biK g_ior a b fun r => K E n z L (r :: S) M)) = some rs from h)
  obtain ⟨h3, h4⟩ := gd_some h2
  have hs0 := hs
  clear hs
  obtain ⟨v, st1, rfl, hv, hs1⟩ := czs_cons hs0
  obtain ⟨u, st, rfl, hu, hs⟩ := czs_cons hs1
  obtain ⟨y, rfl⟩ := cz_isI hv h3
  obtain ⟨x, rfl⟩ := cz_isI hu h1
  obtain ⟨w, hw, hcw⟩ := biK_ok (op := fun x y => x ||| y) h4 hu hv (fun u v => nI_toN _)
  exact lv_ior C.1 C.2.1 hdg (hK E n z L _ M rs hw he ρ H locs ls _ h0 hE hM hS hL ⟨hcw, hs⟩)
theorem ok_ixor (C : Cx cc own Ts p l s m args meth c D G A nL) {call : Call} (hdg : decode cc pc = .ok (.ixor, 1)) (hK : KOK p l e R s m args below meth c Q D G A ρ0 nL Pe (pc + 1) K) : KOK p l e R s m args below meth c Q D G A ρ0 nL Pe pc (op_bin g_ixor call K) := by
  intro E n z L S M rs h he ρ H locs ls st h0 hE hM hS hL hs
  rcases S with _ | ⟨b, _ | ⟨a, S⟩⟩
  · cases h
  · cases h
  obtain ⟨h1, h2⟩ := gd_some (show gd (isI a) (gd (isI b) (biK g_ixor a b fun r => K E n z L (r :: S) M)) = some rs from h)
  obtain ⟨h3, h4⟩ := gd_some h2
  have hs0 := hs
  clear hs
  obtain ⟨v, st1, rfl, hv, hs1⟩ := czs_cons hs0
  obtain ⟨u, st, rfl, hu, hs⟩ := czs_cons hs1
  obtain ⟨y, rfl⟩ := cz_isI hv h3
  obtain ⟨x, rfl⟩ := cz_isI hu h1
  obtain ⟨w, hw, hcw⟩ := biK_ok (op := fun x y => x ^^^ y) h4 hu hv (fun u v => nI_toN _)
  exact lv_ixor C.1 C.2.1 hdg (hK E n z L _ M rs hw he ρ H locs ls _ h0 hE hM hS hL ⟨hcw, hs⟩)
theorem ok_ishl (C : Cx cc own Ts p l s m args meth c D G A nL) {call : Call} (hdg : decode cc pc = .ok (.ishl, 1)) (hK : KOK p l e R s m args below meth c Q D G A ρ0 nL Pe (pc + 1) K) : KOK p l e R s m args below meth c Q D G A ρ0 nL Pe pc (op_bin g_ishl call K) := by
  intro E n z L S M rs h he ρ H locs ls st h0 hE hM hS hL hs
  rcases S with _ | ⟨b, _ | ⟨a, S⟩⟩
  · cases h
  · cases h
  obtain ⟨h1, h2⟩ := gd_some (show gd (isI a) (gd (isI b) (biK g_ishl a b fun r => K E n z L (r :: S) M)) = some rs from h)
  obtain ⟨h3, h4⟩ := gd_some h2
  have hs0 := hs
  clear hs
  obtain ⟨v, st1, rfl, hv, hs1⟩ := czs_cons hs0
  obtain ⟨u, st, rfl, hu, hs⟩ := czs_cons hs1
  obtain ⟨y, rfl⟩ := cz_isI hv h3
  obtain ⟨x, rfl⟩ := cz_isI hu h1
  obtain ⟨w, hw, hcw⟩ := biK_ok (op := fun x y => x <<< (y &&& 31)) h4 hu hv (fun u v => nI_toN _)
  exact lv_ishl C.1 C.2.1 hdg (hK E n z L _ M rs hw he ρ H locs ls _ h0 hE hM hS hL ⟨hcw, hs⟩)
theorem ok_ishr (C : Cx cc own Ts p l s m args meth c D G A nL) {call : Call} (hdg : decode cc pc = .ok (.ishr, 1)) (hK : KOK p l e R s m args below meth c Q D G A ρ0 nL Pe (pc + 1) K) : KOK p l e R s m args below meth c Q D G A ρ0 nL Pe pc (op_bin g_ishr call K) := by
  intro E n z L S M rs h he ρ H locs ls st h0 hE hM hS hL hs
  rcases S with _ | ⟨b, _ | ⟨a, S⟩⟩
  · cases h
  · cases h
  obtain ⟨h1, h2⟩ := gd_some (show gd (isI a) (gd (isI b) (biK g_ishr a b fun r => K E n z L (r :: S) M)) = some rs from h)
  obtain ⟨h3, h4⟩ := gd_some h2
  have hs0 := hs
  clear hs
  obtain ⟨v, st1, rfl, hv, hs1⟩ := czs_cons hs0
  obtain ⟨u, st, rfl, hu, hs⟩ := czs_cons hs1
  obtain ⟨y, rfl⟩ := cz_isI hv h3
  obtain ⟨x, rfl⟩ := cz_isI hu h1
  obtain ⟨w, hw, hcw⟩ := biK_ok (op := fun x y => x >>> (y &&& 31)) h4 hu hv (fun u v => nI_toN _)
  exact lv_ishr C.1 C.2.1 hdg (hK E n z L _ M rs hw he ρ H locs ls _ h0 hE hM hS hL ⟨hcw, hs⟩)
noncomputable def g_ineg (x : Nat) : Nat := toN (-(nI x))
theorem ok_ineg (C : Cx cc own Ts p l s m args meth c D G A nL) {call : Call} (hdg : decode cc pc = .ok (.ineg, 1)) (hK : KOK p l e R s m args below meth c Q D G A ρ0 nL Pe (pc + 1) K) : KOK p l e R s m args below meth c Q D G A ρ0 nL Pe pc (op_un g_ineg call K) := by
  intro E n z L S M rs h he ρ H locs ls st h0 hE hM hS hL hs
  rcases S with _ | ⟨a, S⟩
  · cases h
  obtain ⟨h1, h2⟩ := gd_some (show gd (isI a) (unK g_ineg a fun r => K E n z L (r :: S) M) = some rs from h)
  have hs0 := hs
  clear hs
  obtain ⟨u, st, rfl, hu, hs⟩ := czs_cons hs0
  obtain ⟨x, rfl⟩ := cz_isI hu h1
  obtain ⟨w, hw, hcw⟩ := unK_ok (op := fun x => -x) h2 hu (fun u => nI_toN _)
  exact lv_ineg C.1 C.2.1 hdg (hK E n z L _ M rs hw he ρ H locs ls _ h0 hE hM hS hL ⟨hcw, hs⟩)
noncomputable def g_i2b (x : Nat) : Nat := toN ((nI x).toInt8.toInt32)
theorem ok_i2b (C : Cx cc own Ts p l s m args meth c D G A nL) {call : Call} (hdg : decode cc pc = .ok (.i2b, 1)) (hK : KOK p l e R s m args below meth c Q D G A ρ0 nL Pe (pc + 1) K) : KOK p l e R s m args below meth c Q D G A ρ0 nL Pe pc (op_un g_i2b call K) := by
  intro E n z L S M rs h he ρ H locs ls st h0 hE hM hS hL hs
  rcases S with _ | ⟨a, S⟩
  · cases h
  obtain ⟨h1, h2⟩ := gd_some (show gd (isI a) (unK g_i2b a fun r => K E n z L (r :: S) M) = some rs from h)
  have hs0 := hs
  clear hs
  obtain ⟨u, st, rfl, hu, hs⟩ := czs_cons hs0
  obtain ⟨x, rfl⟩ := cz_isI hu h1
  obtain ⟨w, hw, hcw⟩ := unK_ok (op := fun x => x.toInt8.toInt32) h2 hu (fun u => nI_toN _)
  exact lv_i2b C.1 C.2.1 hdg rfl (hK E n z L _ M rs hw he ρ H locs ls _ h0 hE hM hS hL ⟨hcw, hs⟩)
noncomputable def g_i2c (x : Nat) : Nat := toN (((nI x).toUInt32 % 65536).toInt32)
theorem ok_i2c (C : Cx cc own Ts p l s m args meth c D G A nL) {call : Call} (hdg : decode cc pc = .ok (.i2c, 1)) (hK : KOK p l e R s m args below meth c Q D G A ρ0 nL Pe (pc + 1) K) : KOK p l e R s m args below meth c Q D G A ρ0 nL Pe pc (op_un g_i2c call K) := by
  intro E n z L S M rs h he ρ H locs ls st h0 hE hM hS hL hs
  rcases S with _ | ⟨a, S⟩
  · cases h
  obtain ⟨h1, h2⟩ := gd_some (show gd (isI a) (unK g_i2c a fun r => K E n z L (r :: S) M) = some rs from h)
  have hs0 := hs
  clear hs
  obtain ⟨u, st, rfl, hu, hs⟩ := czs_cons hs0
  obtain ⟨x, rfl⟩ := cz_isI hu h1
  obtain ⟨w, hw, hcw⟩ := unK_ok (op := fun x => (x.toUInt32 % 65536).toInt32) h2 hu (fun u => nI_toN _)
  exact lv_i2c C.1 C.2.1 hdg rfl (hK E n z L _ M rs hw he ρ H locs ls _ h0 hE hM hS hL ⟨hcw, hs⟩)
theorem rem6_is {E : Env9} {a : AV} {y : Nat} (h : rem6 E a y = true) : a = vX (some (1, 0)) ∧ y = 3 ∧ Nat.beq (nthE E 4000).1 (nthE E 4000).2 = true := by
  rcases a with n | k | n | o | i | w | n | n
  · cases h
  · cases h
  · cases h
  · cases o with
    | none => cases h
    | some o =>
      obtain ⟨o1, o2⟩ := o
      have h' : (Bool.rec false (Bool.rec false (Bool.rec false (Nat.beq (nthE E 4000).1 (nthE E 4000).2) (Nat.beq y 3)) (Nat.beq o2 0)) (Nat.beq o1 1) : Bool) = true := h
      cases q1 : Nat.beq o1 1 with
      | false => rw [q1] at h'; cases h'
      | true =>
        rw [q1] at h'
        cases q2 : Nat.beq o2 0 with
        | false => rw [q2] at h'; cases h'
        | true =>
          rw [q2] at h'
          cases q3 : Nat.beq y 3 with
          | false => rw [q3] at h'; cases h'
          | true =>
            rw [q3] at h'
            rw [Nat.eq_of_beq_eq_true q1, Nat.eq_of_beq_eq_true q2]
            exact ⟨rfl, Nat.eq_of_beq_eq_true q3, h'⟩
  all_goals cases h
theorem ok_irem (C : Cx cc own Ts p l s m args meth c D G A nL) {call : Call} (hdg : decode cc pc = .ok (.irem, 1)) (hK : KOK p l e R s m args below meth c Q D G A ρ0 nL Pe (pc + 1) K) : KOK p l e R s m args below meth c Q D G A ρ0 nL Pe pc (op_irem call K) := by
  intro E n z L S M rs h he ρ H locs ls st h0 hE hM hS hL hs
  rcases S with _ | ⟨b, _ | ⟨a, S⟩⟩
  · cases h
  · cases h
  rcases b with y | k | k | o | i | w | k | k
  · obtain ⟨h1, h2⟩ := gd_some (show gd (isI a) (gd (Nat.ble 1 (y % 4294967296)) (Bool.rec (biK (fun x y => toN (nI x - nI x / nI y * nI y)) a (.inl y) fun r => K E n z L (r :: S) M) (K E n z L (vI (bi (nthE E 4000).1) :: S) M) (rem6 E a y))) = some rs from h)
    obtain ⟨h3, h4⟩ := gd_some h2
    have hs0 := hs
    clear hs
    obtain ⟨v, st1, rfl, hv, hs1⟩ := czs_cons hs0
    obtain ⟨u, st, rfl, hu, hs⟩ := czs_cons hs1
    obtain ⟨x, rfl⟩ := cz_isI hu h1
    have hv' : v = .int (nI y) := hv
    subst hv'
    have hne : nI y ≠ 0 := by
      intro q
      have q1 := Nat.le_of_ble_eq_true h3
      have q2 := (nI_eq_iff y 0).mp q
      unfold bi at q2
      omega
    cases h6 : rem6 E a y with
    | false =>
      rw [h6] at h4
      obtain ⟨w, hw, hcw⟩ := biK_ok (op := fun x y => x - x / y * y) (show biK (fun x y => toN (nI x - nI x / nI y * nI y)) a (.inl y) (fun r => K E n z L (r :: S) M) = some rs from h4) hu hv (fun u v => nI_toN _)
      exact lv_irem C.1 C.2.1 hdg hne (hK E n z L _ M rs hw he ρ H locs ls _ h0 hE hM hS hL ⟨hcw, hs⟩)
    | true =>
      rw [h6] at h4
      have h4' : K E n z L (vI (bi (nthE E 4000).1) :: S) M = some rs := h4
      obtain ⟨ha, hy, hp⟩ := rem6_is h6
      refine lv_irem C.1 C.2.1 hdg hne (hK E n z L _ M rs h4' he ρ H locs ls _ h0 hE hM hS hL ⟨?_, hs⟩)
      subst ha; subst hy
      have hx : x = G.1 1 + nI 0 := Value.int.inj hu
      have hx' : x = G.1 1 := by rw [hx]; show G.1 1 + 0 = G.1 1; simp
      show Value.int _ = .int (nI (bi (nthE E 4000).1))
      rw [← envR_pt hE hp, hE.2, hx']
      rfl
  all_goals (obtain ⟨h1, h2⟩ := gd_some (show gd (isI a) none = some rs from h); cases h2)
theorem ok_dup (C : Cx cc own Ts p l s m args meth c D G A nL) {call : Call} (hdg : decode cc pc = .ok (.dup, 1)) (hK : KOK p l e R s m args below meth c Q D G A ρ0 nL Pe (pc + 1) K) : KOK p l e R s m args below meth c Q D G A ρ0 nL Pe pc (op_dup call K) := by
  intro E n z L S M rs h he ρ H locs ls st h0 hE hM hS hL hs
  rcases S with _ | ⟨a, S⟩
  · cases h
  obtain ⟨h1, h2⟩ := gd_some (show gd (Bool.rec true false (isC2 a)) (K E n z L (a :: a :: S) M) = some rs from h)
  have hs0 := hs
  clear hs
  obtain ⟨u, st, rfl, hu, hs⟩ := czs_cons hs0
  exact lv_dup C.1 C.2.1 hdg (cz_c1 hu (nc2 h1)) (hK E n z L _ M rs h2 he ρ H locs ls _ h0 hE hM hS hL ⟨hu, hu, hs⟩)
theorem ok_pop (C : Cx cc own Ts p l s m args meth c D G A nL) {call : Call} (hdg : decode cc pc = .ok (.pop, 1)) (hK : KOK p l e R s m args below meth c Q D G A ρ0 nL Pe (pc + 1) K) : KOK p l e R s m args below meth c Q D G A ρ0 nL Pe pc (op_pop call K) := by
  intro E n z L S M rs h he ρ H locs ls st h0 hE hM hS hL hs
  rcases S with _ | ⟨a, S⟩
  · cases h
  obtain ⟨h1, h2⟩ := gd_some (show gd (Bool.rec true false (isC2 a)) (K E n z L S M) = some rs from h)
  have hs0 := hs
  clear hs
  obtain ⟨u, st, rfl, hu, hs⟩ := czs_cons hs0
  exact lv_pop C.1 C.2.1 hdg (cz_c1 hu (nc2 h1)) (hK E n z L _ M rs h2 he ρ H locs ls _ h0 hE hM hS hL hs)
theorem ok_dup2 (C : Cx cc own Ts p l s m args meth c D G A nL) {call : Call} (hdg : decode cc pc = .ok (.dup2, 1)) (hK : KOK p l e R s m args below meth c Q D G A ρ0 nL Pe (pc + 1) K) : KOK p l e R s m args below meth c Q D G A ρ0 nL Pe pc (op_dup2 call K) := by
  intro E n z L S M rs h he ρ H locs ls st h0 hE hM hS hL hs
  rcases S with _ | ⟨a, _ | ⟨b, S⟩⟩
  · cases h
  · cases h
  obtain ⟨h1, h2⟩ := gd_some (show gd (Bool.rec true false (isC2 a)) (gd (Bool.rec true false (isC2 b)) (K E n z L (a :: b :: a :: b :: S) M)) = some rs from h)
  obtain ⟨h3, h4⟩ := gd_some h2
  have hs0 := hs
  clear hs
  obtain ⟨u, st1, rfl, hu, hs1⟩ := czs_cons hs0
  obtain ⟨v, st, rfl, hv, hs⟩ := czs_cons hs1
  exact lv_dup2_11 C.1 C.2.1 hdg (cz_c1 hu (nc2 h1)) (cz_c1 hv (nc2 h3)) (hK E n z L _ M rs h4 he ρ H locs ls _ h0 hE hM hS hL ⟨hu, hv, hu, hv, hs⟩)
theorem ok_i2l (C : Cx cc own Ts p l s m args meth c D G A nL) {call : Call} (hdg : decode cc pc = .ok (.i2l, 1)) (hK : KOK p l e R s m args below meth c Q D G A ρ0 nL Pe (pc + 1) K) : KOK p l e R s m args below meth c Q D G A ρ0 nL Pe pc (op_i2l call K) := by
  intro E n z L S M rs h he ρ H locs ls st h0 hE hM hS hL hs
  rcases S with _ | ⟨a, S⟩
  · cases h
  have hs0 := hs
  clear hs
  obtain ⟨u, st, rfl, hu, hs⟩ := czs_cons hs0
  rcases a with y | k | k | o | i | w | k | k
  · have h' : fN (toNL (nI y).toInt64) (fun r => K E n z L (vJ r :: S) M) = some rs := h
    rw [fN_eq] at h'
    have hu' : u = .int (nI y) := hu
    subst hu'
    exact lv_i2l C.1 C.2.1 hdg rfl (hK E n z L _ M rs h' he ρ H locs ls _ h0 hE hM hS hL ⟨(by show Value.long _ = .long (lN (toNL _)); rw [lN_toN]), hs⟩)
  · cases h
  · cases h
  · cases o with
    | none => cases h
    | some o =>
      obtain ⟨h1, h2⟩ := gd_some (show gd (Nat.ble (o.1 + 1) 16) (fN (o.1 + 16 * o.2) fun r => K E n z L (vL r :: S) M) = some rs from h)
      rw [fN_eq] at h2
      have h3 := Nat.le_of_ble_eq_true h1
      have hu' : u = .int (G.1 o.1 + nI o.2) := hu
      subst hu'
      have e1 : (o.1 + 16 * o.2) % 16 = o.1 := by omega
      have e2 : (o.1 + 16 * o.2) / 16 = o.2 := by omega
      exact lv_i2l C.1 C.2.1 hdg rfl (hK E n z L _ M rs h2 he ρ H locs ls _ h0 hE hM hS hL ⟨(by show Value.long _ = .long (G.1 ((o.1 + 16 * o.2) % 16) + nI ((o.1 + 16 * o.2) / 16)).toInt64; rw [e1, e2]), hs⟩)
  all_goals cases h
theorem ok_l2i (C : Cx cc own Ts p l s m args meth c D G A nL) {call : Call} (hdg : decode cc pc = .ok (.l2i, 1)) (hK : KOK p l e R s m args below meth c Q D G A ρ0 nL Pe (pc + 1) K) : KOK p l e R s m args below meth c Q D G A ρ0 nL Pe pc (op_l2i call K) := by
  intro E n z L S M rs h he ρ H locs ls st h0 hE hM hS hL hs
  rcases S with _ | ⟨a, S⟩
  · cases h
  have hs0 := hs
  clear hs
  obtain ⟨u, st, rfl, hu, hs⟩ := czs_cons hs0
  rcases a with y | k | k | o | i | w | k | k
  · cases h
  · cases h
  · have h' : fN (toN (lN k).toInt32) (fun r => K E n z L (vI r :: S) M) = some rs := h
    rw [fN_eq] at h'
    have hu' : u = .long (lN k) := hu
    subst hu'
    exact lv_l2i C.1 C.2.1 hdg rfl (hK E n z L _ M rs h' he ρ H locs ls _ h0 hE hM hS hL ⟨(by show Value.int _ = .int (nI (toN _)); rw [nI_toN]), hs⟩)
  all_goals cases h
noncomputable def g_lor (x y : Nat) : Nat := toNL (lN x ||| lN y)
noncomputable def g_lshl (x y : Nat) : Nat := toNL (lN x <<< ((nI y).toInt64 &&& 63))
noncomputable def g_lshr (x y : Nat) : Nat := toNL (lN x >>> ((nI y).toInt64 &&& 63))
theorem ok_lor (C : Cx cc own Ts p l s m args meth c D G A nL) {call : Call} (hdg : decode cc pc = .ok (.lor, 1)) (hK : KOK p l e R s m args below meth c Q D G A ρ0 nL Pe (pc + 1) K) : KOK p l e R s m args below meth c Q D G A ρ0 nL Pe pc (op_lbin g_lor call K) := by
  intro E n z L S M rs h he ρ H locs ls st h0 hE hM hS hL hs
  rcases S with _ | ⟨b, _ | ⟨a, S⟩⟩
  · cases h
  · rcases b with y | k | k | o | i | w | k | k <;> cases h
  have hs0 := hs
  clear hs
  obtain ⟨v, st1, rfl, hv, hs1⟩ := czs_cons hs0
  obtain ⟨u, st, rfl, hu, hs⟩ := czs_cons hs1
  rcases b with y | k | y' | o | i | w | k | k
  · rcases a with x | k | x | o | i | w | k | k <;> cases h
  · rcases a with x | k | x | o | i | w | k | k <;> cases h
  · rcases a with x | k | x | o | i | w | k | k
    · cases h
    · cases h
    · have h' : fN (g_lor x y') (fun r => K E n z L (vJ r :: S) M) = some rs := h
      rw [fN_eq] at h'
      have hu' : u = .long (lN x) := hu
      have hv' : v = .long (lN y') := hv
      subst hu'; subst hv'
      exact lv_lor C.1 C.2.1 hdg (hK E n z L _ M rs h' he ρ H locs ls _ h0 hE hM hS hL ⟨(by show Value.long _ = .long (lN (toNL _)); rw [lN_toN]), hs⟩)
    all_goals cases h
  all_goals (rcases a with x | k | x | o | i | w | k | k <;> cases h)
theorem ok_lshl (C : Cx cc own Ts p l s m args meth c D G A nL) {call : Call} (hdg : decode cc pc = .ok (.lshl, 1)) (hK : KOK p l e R s m args below meth c Q D G A ρ0 nL Pe (pc + 1) K) : KOK p l e R s m args below meth c Q D G A ρ0 nL Pe pc (op_lsh g_lshl call K) := by
  intro E n z L S M rs h he ρ H locs ls st h0 hE hM hS hL hs
  rcases S with _ | ⟨b, _ | ⟨a, S⟩⟩
  · cases h
  · rcases b with y | k | k | o | i | w | k | k <;> cases h
  have hs0 := hs
  clear hs
  obtain ⟨v, st1, rfl, hv, hs1⟩ := czs_cons hs0
  obtain ⟨u, st, rfl, hu, hs⟩ := czs_cons hs1
  rcases b with y | k | y' | o | i | w | k | k
  · rcases a with x | k | x | o | i | w | k | k
    · cases h
    · cases h
    · have h' : fN (g_lshl x y) (fun r => K E n z L (vJ r :: S) M) = some rs := h
      rw [fN_eq] at h'
      have hu' : u = .long (lN x) := hu
      have hv' : v = .int (nI y) := hv
      subst hu'; subst hv'
      exact lv_lshl C.1 C.2.1 hdg rfl (hK E n z L _ M rs h' he ρ H locs ls _ h0 hE hM hS hL ⟨(by show Value.long _ = .long (lN (toNL _)); rw [lN_toN]), hs⟩)
    all_goals cases h
  all_goals (rcases a with x | k | x | o | i | w | k | k <;> cases h)
theorem ok_lshr (C : Cx cc own Ts p l s m args meth c D G A nL) {call : Call} (hdg : decode cc pc = .ok (.lshr, 1)) (hK : KOK p l e R s m args below meth c Q D G A ρ0 nL Pe (pc + 1) K) : KOK p l e R s m args below meth c Q D G A ρ0 nL Pe pc (op_lsh g_lshr call K) := by
  intro E n z L S M rs h he ρ H locs ls st h0 hE hM hS hL hs
  rcases S with _ | ⟨b, _ | ⟨a, S⟩⟩
  · cases h
  · rcases b with y | k | k | o | i | w | k | k <;> cases h
  have hs0 := hs
  clear hs
  obtain ⟨v, st1, rfl, hv, hs1⟩ := czs_cons hs0
  obtain ⟨u, st, rfl, hu, hs⟩ := czs_cons hs1
  rcases b with y | k | y' | o | i | w | k | k
  · rcases a with x | k | x | o | i | w | k | k
    · cases h
    · cases h
    · have h' : fN (g_lshr x y) (fun r => K E n z L (vJ r :: S) M) = some rs := h
      rw [fN_eq] at h'
      have hu' : u = .long (lN x) := hu
      have hv' : v = .int (nI y) := hv
      subst hu'; subst hv'
      exact lv_lshr C.1 C.2.1 hdg rfl (hK E n z L _ M rs h' he ρ H locs ls _ h0 hE hM hS hL ⟨(by show Value.long _ = .long (lN (toNL _)); rw [lN_toN]), hs⟩)
    all_goals cases h
  all_goals (rcases a with x | k | x | o | i | w | k | k <;> cases h)
theorem go_of {pc' : Nat} {J : KK} {L S : List AV} {M : Mem} {n z : Nat} {rs : List Res} {k : Env9 → OR} (hk : ∀ E, k E = J E n z L S M) (hJ : KOK p l e R s m args below meth c Q D G A ρ0 nL Pe pc' J) (he : ∀ r ∈ rs, Pe r) (ht : tak G rs k) : ∃ E', envR G E' ∧ WW p l e R s m args below meth c Q D G A ρ0 nL pc' E' n z L S M := by
  obtain ⟨E', rs', h1, h2, h3⟩ := ht
  rw [hk] at h1
  exact ⟨E', h3, hJ E' n z L S M rs' h1 (fun r hr => he r (h2 r hr))⟩
theorem ok_goto (C : Cx cc own Ts p l s m args meth c D G A nL) {call : Call} {j : Jmp} {b tgt : Nat} {off : Int} (hdg : decode cc pc = .ok (.goto off, 3)) (ht : (pc : Int) + off = (tgt : Int)) (hJ : KOK p l e R s m args below meth c Q D G A ρ0 nL Pe tgt (j b)) : KOK p l e R s m args below meth c Q D G A ρ0 nL Pe pc (tm_goto b call j) := by
  intro E n z L S M rs h he ρ H locs ls st h0 hE hM hS hL hs
  exact lv_goto C.1 C.2.1 hdg ht (hJ E n z L S M rs h he ρ H locs ls st h0 hE hM hS hL hs)
theorem ok_next {call : Call} {j : Jmp} {b : Nat} (hJ : KOK p l e R s m args below meth c Q D G A ρ0 nL Pe pc (j b)) : KOK p l e R s m args below meth c Q D G A ρ0 nL Pe pc (tm_goto b call j) := hJ
theorem ok_icmp_eq (C : Cx cc own Ts p l s m args meth c D G A nL) {call : Call} {j : Jmp} {bt bf tgt : Nat} {off : Int} (hdg : decode cc pc = .ok (.if_icmp .eq off, 3)) (ht : (pc : Int) + off = (tgt : Int)) (hT : KOK p l e R s m args below meth c Q D G A ρ0 nL Pe tgt (j bt)) (hF : KOK p l e R s m args below meth c Q D G A ρ0 nL Pe (pc + 3) (j bf)) : KOK p l e R s m args below meth c Q D G A ρ0 nL Pe pc (tm_icmp bf bt bf call j) := by
  intro E n z L S M rs h he ρ H locs ls st h0 hE hM hS hL hs
  rcases S with _ | ⟨b, _ | ⟨a, S⟩⟩
  · cases h
  · cases h
  have hs0 := hs
  clear hs
  obtain ⟨v, st1, rfl, hv, hs1⟩ := czs_cons hs0
  obtain ⟨u, st, rfl, hu, hs⟩ := czs_cons hs1
  have h' : cmp3 a b E (fun E => j bf E n z L S M) (fun E => j bt E n z L S M) (fun E => j bf E n z L S M) = some rs := h
  have hi : (∃ x, u = .int x) ∧ ∃ y, v = .int y := cmp3_int h' hu hv
  obtain ⟨⟨x, rfl⟩, ⟨y, rfl⟩⟩ := hi
  obtain ⟨k1, k2, k3⟩ := cmp3_ok h' hE hu hv
  exact lv_icmp_eq C.1 C.2.1 hdg ht
   (fun hq => by
    rcases i32_tri x y with t | t | t
    · exact absurd hq (by intro hq; simp only [i32_lt, i32_le, ← Int32.toInt_inj, Int32.toInt_zero, ne_eq] at hq t; omega)
    · obtain ⟨E', g1, g2⟩ := go_of (fun _ => rfl) hT he (k2 t)
      exact g2 ρ H locs ls st h0 g1 hM hS hL hs
    · exact absurd hq (by intro hq; simp only [i32_lt, i32_le, ← Int32.toInt_inj, Int32.toInt_zero, ne_eq] at hq t; omega))
   (fun hq => by
    rcases i32_tri x y with t | t | t
    · obtain ⟨E', g1, g2⟩ := go_of (fun _ => rfl) hF he (k1 t)
      exact g2 ρ H locs ls st h0 g1 hM hS hL hs
    · exact absurd hq (by intro hq; simp only [i32_lt, i32_le, ← Int32.toInt_inj, Int32.toInt_zero, ne_eq] at hq t; omega)
    · obtain ⟨E', g1, g2⟩ := go_of (fun _ => rfl) hF he (k3 t)
      exact g2 ρ H locs ls st h0 g1 hM hS hL hs)
theorem ok_if_eq (C : Cx cc own Ts p l s m args meth c D G A nL) {call : Call} {j : Jmp} {bt bf tgt : Nat} {off : Int} (hdg : decode cc pc = .ok (.ifCond .eq off, 3)) (ht : (pc : Int) + off = (tgt : Int)) (hT : KOK p l e R s m args below meth c Q D G A ρ0 nL Pe tgt (j bt)) (hF : KOK p l e R s m args below meth c Q D G A ρ0 nL Pe (pc + 3) (j bf)) : KOK p l e R s m args below meth c Q D G A ρ0 nL Pe pc (tm_if bf bt bf call j) := by
  intro E n z L S M rs h he ρ H locs ls st h0 hE hM hS hL hs
  rcases S with _ | ⟨a, S⟩
  · cases h
  have hs0 := hs
  clear hs
  obtain ⟨u, st, rfl, hu, hs⟩ := czs_cons hs0
  have hi : ∃ x, u = .int x := by
    rcases a with x | k | x | o | i | w | k | k
    · exact ⟨_, hu⟩
    · cases h
    · cases h
    · cases o with
      | none => cases h
      | some o => exact ⟨_, hu⟩
    all_goals cases h
  obtain ⟨x, rfl⟩ := hi
  have h' : cmp3 a (vI 0) E (fun E => j bf E n z L S M) (fun E => j bt E n z L S M) (fun E => j bf E n z L S M) = some rs := h
  obtain ⟨k1, k2, k3⟩ := cmp3_ok (y := 0) h' hE hu (show cz G ρ (vI 0) (.int 0) from rfl)
  exact lv_if_eq C.1 C.2.1 hdg ht
   (fun hq => by
    rcases i32_tri x 0 with t | t | t
    · exact absurd hq (by intro hq; simp only [i32_lt, i32_le, ← Int32.toInt_inj, Int32.toInt_zero, ne_eq] at hq t; omega)
    · obtain ⟨E', g1, g2⟩ := go_of (fun _ => rfl) hT he (k2 t)
      exact g2 ρ H locs ls st h0 g1 hM hS hL hs
    · exact absurd hq (by intro hq; simp only [i32_lt, i32_le, ← Int32.toInt_inj, Int32.toInt_zero, ne_eq] at hq t; omega))
   (fun hq => by
    rcases i32_tri x 0 with t | t | t
    · obtain ⟨E', g1, g2⟩ := go_of (fun _ => rfl) hF he (k1 t)
      exact g2 ρ H locs ls st h0 g1 hM hS hL hs
    · exact absurd hq (by intro hq; simp only [i32_lt, i32_le, ← Int32.toInt_inj, Int32.toInt_zero, ne_eq] at hq t; omega)
    · obtain ⟨E', g1, g2⟩ := go_of (fun _ => rfl) hF he (k3 t)
      exact g2 ρ H locs ls st h0 g1 hM hS hL hs)
theorem ok_icmp_ne (C : Cx cc own Ts p l s m args meth c D G A nL) {call : Call} {j : Jmp} {bt bf tgt : Nat} {off : Int} (hdg : decode cc pc = .ok (.if_icmp .ne off, 3)) (ht : (pc : Int) + off = (tgt : Int)) (hT : KOK p l e R s m args below meth c Q D G A ρ0 nL Pe tgt (j bt)) (hF : KOK p l e R s m args below meth c Q D G A ρ0 nL Pe (pc + 3) (j bf)) : KOK p l e R s m args below meth c Q D G A ρ0 nL Pe pc (tm_icmp bt bf bt call j) := by
  intro E n z L S M rs h he ρ H locs ls st h0 hE hM hS hL hs
  rcases S with _ | ⟨b, _ | ⟨a, S⟩⟩
  · cases h
  · cases h
  have hs0 := hs
  clear hs
  obtain ⟨v, st1, rfl, hv, hs1⟩ := czs_cons hs0
  obtain ⟨u, st, rfl, hu, hs⟩ := czs_cons hs1
  have h' : cmp3 a b E (fun E => j bt E n z L S M) (fun E => j bf E n z L S M) (fun E => j bt E n z L S M) = some rs := h
  have hi : (∃ x, u = .int x) ∧ ∃ y, v = .int y := cmp3_int h' hu hv
  obtain ⟨⟨x, rfl⟩, ⟨y, rfl⟩⟩ := hi
  obtain ⟨k1, k2, k3⟩ := cmp3_ok h' hE hu hv
  exact lv_icmp_ne C.1 C.2.1 hdg ht
   (fun hq => by
    rcases i32_tri x y with t | t | t
    · obtain ⟨E', g1, g2⟩ := go_of (fun _ => rfl) hT he (k1 t)
      exact g2 ρ H locs ls st h0 g1 hM hS hL hs
    · exact absurd hq (by intro hq; simp only [i32_lt, i32_le, ← Int32.toInt_inj, Int32.toInt_zero, ne_eq] at hq t; omega)
    · obtain ⟨E', g1, g2⟩ := go_of (fun _ => rfl) hT he (k3 t)
      exact g2 ρ H locs ls st h0 g1 hM hS hL hs)
   (fun hq => by
    rcases i32_tri x y with t | t | t
    · exact absurd hq (by intro hq; simp only [i32_lt, i32_le, ← Int32.toInt_inj, Int32.toInt_zero, ne_eq] at hq t; omega)
    · obtain ⟨E', g1, g2⟩ := go_of (fun _ => rfl) hF he (k2 t)
      exact g2 ρ H locs ls st h0 g1 hM hS hL hs
    · exact absurd hq (by intro hq; simp only [i32_lt, i32_le, ← Int32.toInt_inj, Int32.toInt_zero, ne_eq] at hq t; omega))
theorem ok_if_ne (C : Cx cc own Ts p l s m args meth c D G A nL) {call : Call} {j : Jmp} {bt bf tgt : Nat} {off : Int} (hdg : decode cc pc = .ok (.ifCond .ne off, 3)) (ht : (pc : Int) + off = (tgt : Int)) (hT : KOK p l e R s m args below meth c Q D G A ρ0 nL Pe tgt (j bt)) (hF : KOK p l e R s m args below meth c Q D G A ρ0 nL Pe (pc + 3) (j bf)) : KOK p l e R s m args below meth c Q D G A ρ0 nL Pe pc (tm_if bt bf bt call j) := by
  intro E n z L S M rs h he ρ H locs ls st h0 hE hM hS hL hs
  rcases S with _ | ⟨a, S⟩
  · cases h
  have hs0 := hs
  clear hs
  obtain ⟨u, st, rfl, hu, hs⟩ := czs_cons hs0
  have hi : ∃ x, u = .int x := by
    rcases a with x | k | x | o | i | w | k | k
    · exact ⟨_, hu⟩
    · cases h
    · cases h
    · cases o with
      | none => cases h
      | some o => exact ⟨_, hu⟩
    all_goals cases h
  obtain ⟨x, rfl⟩ := hi
  have h' : cmp3 a (vI 0) E (fun E => j bt E n z L S M) (fun E => j bf E n z L S M) (fun E => j bt E n z L S M) = some rs := h
  obtain ⟨k1, k2, k3⟩ := cmp3_ok (y := 0) h' hE hu (show cz G ρ (vI 0) (.int 0) from rfl)
  exact lv_if_ne C.1 C.2.1 hdg ht
   (fun hq => by
    rcases i32_tri x 0 with t | t | t
    · obtain ⟨E', g1, g2⟩ := go_of (fun _ => rfl) hT he (k1 t)
      exact g2 ρ H locs ls st h0 g1 hM hS hL hs
    · exact absurd hq (by intro hq; simp only [i32_lt, i32_le, ← Int32.toInt_inj, Int32.toInt_zero, ne_eq] at hq t; omega)
    · obtain ⟨E', g1, g2⟩ := go_of (fun _ => rfl) hT he (k3 t)
      exact g2 ρ H locs ls st h0 g1 hM hS hL hs)
   (fun hq => by
    rcases i32_tri x 0 with t | t | t
    · exact absurd hq (by intro hq; simp only [i32_lt, i32_le, ← Int32.toInt_inj, Int32.toInt_zero, ne_eq] at hq t; omega)
    · obtain ⟨E', g1, g2⟩ := go_of (fun _ => rfl) hF he (k2 t)
      exact g2 ρ H locs ls st h0 g1 hM hS hL hs
    · exact absurd hq (by intro hq; simp only [i32_lt, i32_le, ← Int32.toInt_inj, Int32.toInt_zero, ne_eq] at hq t; omega))
theorem ok_icmp_lt (C : Cx cc own Ts p l s m args meth c D G A nL) {call : Call} {j : Jmp} {bt bf tgt : Nat} {off : Int} (hdg : decode cc pc = .ok (.if_icmp .lt off, 3)) (ht : (pc : Int) + off = (tgt : Int)) (hT : KOK p l e R s m args below meth c Q D G A ρ0 nL Pe tgt (j bt)) (hF : KOK p l e R s m args below meth c Q D G A ρ0 nL Pe (pc + 3) (j bf)) : KOK p l e R s m args below meth c Q D G A ρ0 nL Pe pc (tm_icmp bt bf bf call j) := by
  intro E n z L S M rs h he ρ H locs ls st h0 hE hM hS hL hs
  rcases S with _ | ⟨b, _ | ⟨a, S⟩⟩
  · cases h
  · cases h
  have hs0 := hs
  clear hs
  obtain ⟨v, st1, rfl, hv, hs1⟩ := czs_cons hs0
  obtain ⟨u, st, rfl, hu, hs⟩ := czs_cons hs1
  have h' : cmp3 a b E (fun E => j bt E n z L S M) (fun E => j bf E n z L S M) (fun E => j bf E n z L S M) = some rs := h
  have hi : (∃ x, u = .int x) ∧ ∃ y, v = .int y := cmp3_int h' hu hv
  obtain ⟨⟨x, rfl⟩, ⟨y, rfl⟩⟩ := hi
  obtain ⟨k1, k2, k3⟩ := cmp3_ok h' hE hu hv
  exact lv_icmp_lt C.1 C.2.1 hdg ht
   (fun hq => by
    rcases i32_tri x y with t | t | t
    · obtain ⟨E', g1, g2⟩ := go_of (fun _ => rfl) hT he (k1 t)
      exact g2 ρ H locs ls st h0 g1 hM hS hL hs
    · exact absurd hq (by intro hq; simp only [i32_lt, i32_le, ← Int32.toInt_inj, Int32.toInt_zero, ne_eq] at hq t; omega)
    · exact absurd hq (by intro hq; simp only [i32_lt, i32_le, ← Int32.toInt_inj, Int32.toInt_zero, ne_eq] at hq t; omega))
   (fun hq => by
    rcases i32_tri x y with t | t | t
    · exact absurd hq (by intro hq; simp only [i32_lt, i32_le, ← Int32.toInt_inj, Int32.toInt_zero, ne_eq] at hq t; omega)
    · obtain ⟨E', g1, g2⟩ := go_of (fun _ => rfl) hF he (k2 t)
      exact g2 ρ H locs ls st h0 g1 hM hS hL hs
    · obtain ⟨E', g1, g2⟩ := go_of (fun _ => rfl) hF he (k3 t)
      exact g2 ρ H locs ls st h0 g1 hM hS hL hs)
theorem ok_if_lt (C : Cx cc own Ts p l s m args meth c D G A nL) {call : Call} {j : Jmp} {bt bf tgt : Nat} {off : Int} (hdg : decode cc pc = .ok (.ifCond .lt off, 3)) (ht : (pc : Int) + off = (tgt : Int)) (hT : KOK p l e R s m args below meth c Q D G A ρ0 nL Pe tgt (j bt)) (hF : KOK p l e R s m args below meth c Q D G A ρ0 nL Pe (pc + 3) (j bf)) : KOK p l e R s m args below meth c Q D G A ρ0 nL Pe pc (tm_if bt bf bf call j) := by
  intro E n z L S M rs h he ρ H locs ls st h0 hE hM hS hL hs
  rcases S with _ | ⟨a, S⟩
  · cases h
  have hs0 := hs
  clear hs
  obtain ⟨u, st, rfl, hu, hs⟩ := czs_cons hs0
  have hi : ∃ x, u = .int x := by
    rcases a with x | k | x | o | i | w | k | k
    · exact ⟨_, hu⟩
    · cases h
    · cases h
    · cases o with
      | none => cases h
      | some o => exact ⟨_, hu⟩
    all_goals cases h
  obtain ⟨x, rfl⟩ := hi
  have h' : cmp3 a (vI 0) E (fun E => j bt E n z L S M) (fun E => j bf E n z L S M) (fun E => j bf E n z L S M) = some rs := h
  obtain ⟨k1, k2, k3⟩ := cmp3_ok (y := 0) h' hE hu (show cz G ρ (vI 0) (.int 0) from rfl)
  exact lv_if_lt C.1 C.2.1 hdg ht
   (fun hq => by
    rcases i32_tri x 0 with t | t | t
    · obtain ⟨E', g1, g2⟩ := go_of (fun _ => rfl) hT he (k1 t)
      exact g2 ρ H locs ls st h0 g1 hM hS hL hs
    · exact absurd hq (by intro hq; simp only [i32_lt, i32_le, ← Int32.toInt_inj, Int32.toInt_zero, ne_eq] at hq t; omega)
    · exact absurd hq (by intro hq; simp only [i32_lt, i32_le, ← Int32.toInt_inj, Int32.toInt_zero, ne_eq] at hq t; omega))
   (fun hq => by
    rcases i32_tri x 0 with t | t | t
    · exact absurd hq (by intro hq; simp only [i32_lt, i32_le, ← Int32.toInt_inj, Int32.toInt_zero, ne_eq] at hq t; omega)
    · obtain ⟨E', g1, g2⟩ := go_of (fun _ => rfl) hF he (k2 t)
      exact g2 ρ H locs ls st h0 g1 hM hS hL hs
    · obtain ⟨E', g1, g2⟩ := go_of (fun _ => rfl) hF he (k3 t)
      exact g2 ρ H locs ls st h0 g1 hM hS hL hs)
theorem ok_icmp_ge (C : Cx cc own Ts p l s m args meth c D G A nL) {call : Call} {j : Jmp} {bt bf tgt : Nat} {off : Int} (hdg : decode cc pc = .ok (.if_icmp .ge off, 3)) (ht : (pc : Int) + off = (tgt : Int)) (hT : KOK p l e R s m args below meth c Q D G A ρ0 nL Pe tgt (j bt)) (hF : KOK p l e R s m args below meth c Q D G A ρ0 nL Pe (pc + 3) (j bf)) : KOK p l e R s m args below meth c Q D G A ρ0 nL Pe pc (tm_icmp bf bt bt call j) := by
  intro E n z L S M rs h he ρ H locs ls st h0 hE hM hS hL hs
  rcases S with _ | ⟨b, _ | ⟨a, S⟩⟩
  · cases h
  · cases h
  have hs0 := hs
  clear hs
  obtain ⟨v, st1, rfl, hv, hs1⟩ := czs_cons hs0
  obtain ⟨u, st, rfl, hu, hs⟩ := czs_cons hs1
  have h' : cmp3 a b E (fun E => j bf E n z L S M) (fun E => j bt E n z L S M) (fun E => j bt E n z L S M) = some rs := h
  have hi : (∃ x, u = .int x) ∧ ∃ y, v = .int y := cmp3_int h' hu hv
  obtain ⟨⟨x, rfl⟩, ⟨y, rfl⟩⟩ := hi
  obtain ⟨k1, k2, k3⟩ := cmp3_ok h' hE hu hv
  exact lv_icmp_ge C.1 C.2.1 hdg ht
   (fun hq => by
    rcases i32_tri x y with t | t | t
    · exact absurd hq (by intro hq; simp only [i32_lt, i32_le, ← Int32.toInt_inj, Int32.toInt_zero, ne_eq] at hq t; omega)
    · obtain ⟨E', g1, g2⟩ := go_of (fun _ => rfl) hT he (k2 t)
      exact g2 ρ H locs ls st h0 g1 hM hS hL hs
    · obtain ⟨E', g1, g2⟩ := go_of (fun _ => rfl) hT he (k3 t)
      exact g2 ρ H locs ls st h0 g1 hM hS hL hs)
   (fun hq => by
    rcases i32_tri x y with t | t | t
    · obtain ⟨E', g1, g2⟩ := go_of (fun _ => rfl) hF he (k1 t)
      exact g2 ρ H locs ls st h0 g1 hM hS hL hs
    · exact absurd hq (by intro hq; simp only [i32_lt, i32_le, ← Int32.toInt_inj, Int32.toInt_zero, ne_eq] at hq t; omega)
    · exact absurd hq (by intro hq; simp only [i32_lt, i32_le, ← Int32.toInt_inj, Int32.toInt_zero, ne_eq] at hq t; omega))
theorem ok_if_ge (C : Cx cc own Ts p l s m args meth c D G A nL) {call : Call} {j : Jmp} {bt bf tgt : Nat} {off : Int} (hdg : decode cc pc = .ok (.ifCond .ge off, 3)) (ht : (pc : Int) + off = (tgt : Int)) (hT : KOK p l e R s m args below meth c Q D G A ρ0 nL Pe tgt (j bt)) (hF : KOK p l e R s m args below meth c Q D G A ρ0 nL Pe (pc + 3) (j bf)) : KOK p l e R s m args below meth c Q D G A ρ0 nL Pe pc (tm_if bf bt bt call j) := by
  intro E n z L S M rs h he ρ H locs ls st h0 hE hM hS hL hs
  rcases S with _ | ⟨a, S⟩
  · cases h
  have hs0 := hs
  clear hs
  obtain ⟨u, st, rfl, hu, hs⟩ := czs_cons hs0
  have hi : ∃ x, u = .int x := by
    rcases a with x | k | x | o | i | w | k | k
    · exact ⟨_, hu⟩
    · cases h
    · cases h
    · cases o with
      | none => cases h
      | some o => exact ⟨_, hu⟩
    all_goals cases h
  obtain ⟨x, rfl⟩ := hi
  have h' : cmp3 a (vI 0) E (fun E => j bf E n z L S M) (fun E => j bt E n z L S M) (fun E => j bt E n z L S M) = some rs := h
  obtain ⟨k1, k2, k3⟩ := cmp3_ok (y := 0) h' hE hu (show cz G ρ (vI 0) (.int 0) from rfl)
  exact lv_if_ge C.1 C.2.1 hdg ht
   (fun hq => by
    rcases i32_tri x 0 with t | t | t
    · exact absurd hq (by intro hq; simp only [i32_lt, i32_le, ← Int32.toInt_inj, Int32.toInt_zero, ne_eq] at hq t; omega)
    · obtain ⟨E', g1, g2⟩ := go_of (fun _ => rfl) hT he (k2 t)
      exact g2 ρ H locs ls st h0 g1 hM hS hL hs
    · obtain ⟨E', g1, g2⟩ := go_of (fun _ => rfl) hT he (k3 t)
      exact g2 ρ H locs ls st h0 g1 hM hS hL hs)
   (fun hq => by
    rcases i32_tri x 0 with t | t | t
    · obtain ⟨E', g1, g2⟩ := go_of (fun _ => rfl) hF he (k1 t)
      exact g2 ρ H locs ls st h0 g1 hM hS hL hs
    · exact absurd hq (by intro hq; simp only [i32_lt, i32_le, ← Int32.toInt_inj, Int32.toInt_zero, ne_eq] at hq t; omega)
    · exact absurd hq (by intro hq; simp only [i32_lt, i32_le, ← Int32.toInt_inj, Int32.toInt_zero, ne_eq] at hq t; omega))
theorem ok_icmp_gt (C : Cx cc own Ts p l s m args meth c D G A nL) {call : Call} {j : Jmp} {bt bf tgt : Nat} {off : Int} (hdg : decode cc pc = .ok (.if_icmp .gt off, 3)) (ht : (pc : Int) + off = (tgt : Int)) (hT : KOK p l e R s m args below meth c Q D G A ρ0 nL Pe tgt (j bt)) (hF : KOK p l e R s m args below meth c Q D G A ρ0 nL Pe (pc + 3) (j bf)) : KOK p l e R s m args below meth c Q D G A ρ0 nL Pe pc (tm_icmp bf bf bt call j) := by
  intro E n z L S M rs h he ρ H locs ls st h0 hE hM hS hL hs
  rcases S with _ | ⟨b, _ | ⟨a, S⟩⟩
  · cases h
  · cases h
  have hs0 := hs
  clear hs
  obtain ⟨v, st1, rfl, hv, hs1⟩ := czs_cons hs0
  obtain ⟨u, st, rfl, hu, hs⟩ := czs_cons hs1
  have h' : cmp3 a b E (fun E => j bf E n z L S M) (fun E => j bf E n z L S M) (fun E => j bt E n z L S M) = some rs := h
  have hi : (∃ x, u = .int x) ∧ ∃ y, v = .int y := cmp3_int h' hu hv
  obtain ⟨⟨x, rfl⟩, ⟨y, rfl⟩⟩ := hi
  obtain ⟨k1, k2, k3⟩ := cmp3_ok h' hE hu hv
  exact lv_icmp_gt C.1 C.2.1 hdg ht
   (fun hq => by
    rcases i32_tri x y with t | t | t
    · exact absurd hq (by intro hq; simp only [i32_lt, i32_le, ← Int32.toInt_inj, Int32.toInt_zero, ne_eq] at hq t; omega)
    · exact absurd hq (by intro hq; simp only [i32_lt, i32_le, ← Int32.toInt_inj, Int32.toInt_zero, ne_eq] at hq t; omega)
    · obtain ⟨E', g1, g2⟩ := go_of (fun _ => rfl) hT he (k3 t)
      exact g2 ρ H locs ls st h0 g1 hM hS hL hs)
   (fun hq => by
    rcases i32_tri x y with t | t | t
    · obtain ⟨E', g1, g2⟩ := go_of (fun _ => rfl) hF he (k1 t)
      exact g2 ρ H locs ls st h0 g1 hM hS hL hs
    · obtain ⟨E', g1, g2⟩ := go_of (fun _ => rfl) hF he (k2 t)
      exact g2 ρ H locs ls st h0 g1 hM hS hL hs
    · exact absurd hq (by intro hq; simp only [i32_lt, i32_le, ← Int32.toInt_inj, Int32.toInt_zero, ne_eq] at hq t; omega))
theorem ok_if_gt (C : Cx cc own Ts p l s m args meth c D G A nL) {call : Call} {j : Jmp} {bt bf tgt : Nat} {off : Int} (hdg : decode cc pc = .ok (.ifCond .gt off, 3)) (ht : (pc : Int) + off = (tgt : Int)) (hT : KOK p l e R s m args below meth c Q D G A ρ0 nL Pe tgt (j bt)) (hF : KOK p l e R s m args below meth c Q D G A ρ0 nL Pe (pc + 3) (j bf)) : KOK p l e R s m args below meth c Q D G A ρ0 nL Pe pc (tm_if bf bf bt call j) := by
  intro E n z L S M rs h he ρ H locs ls st h0 hE hM hS hL hs
  rcases S with _ | ⟨a, S⟩
  · cases h
  have hs0 := hs
  clear hs
  obtain ⟨u, st, rfl, hu, hs⟩ := czs_cons hs0
  have hi : ∃ x, u = .int x := by
    rcases a with x | k | x | o | i | w | k | k
    · exact ⟨_, hu⟩
    · cases h
    · cases h
    · cases o with
      | none => cases h
      | some o => exact ⟨_, hu⟩
    all_goals cases h
  obtain ⟨x, rfl⟩ := hi
  have h' : cmp3 a (vI 0) E (fun E => j bf E n z L S M) (fun E => j bf E n z L S M) (fun E => j bt E n z L S M) = some rs := h
  obtain ⟨k1, k2, k3⟩ := cmp3_ok (y := 0) h' hE hu (show cz G ρ (vI 0) (.int 0) from rfl)
  exact lv_if_gt C.1 C.2.1 hdg ht
   (fun hq => by
    rcases i32_tri x 0 with t | t | t
    · exact absurd hq (by intro hq; simp only [i32_lt, i32_le, ← Int32.toInt_inj, Int32.toInt_zero, ne_eq] at hq t; omega)
    · exact absurd hq (by intro hq; simp only [i32_lt, i32_le, ← Int32.toInt_inj, Int32.toInt_zero, ne_eq] at hq t; omega)
    · obtain ⟨E', g1, g2⟩ := go_of (fun _ => rfl) hT he (k3 t)
      exact g2 ρ H locs ls st h0 g1 hM hS hL hs)
   (fun hq => by
    rcases i32_tri x 0 with t | t | t
    · obtain ⟨E', g1, g2⟩ := go_of (fun _ => rfl) hF he (k1 t)
      exact g2 ρ H locs ls st h0 g1 hM hS hL hs
    · obtain ⟨E', g1, g2⟩ := go_of (fun _ => rfl) hF he (k2 t)
      exact g2 ρ H locs ls st h0 g1 hM hS hL hs
    · exact absurd hq (by intro hq; simp only [i32_lt, i32_le, ← Int32.toInt_inj, Int32.toInt_zero, ne_eq] at hq t; omega))
theorem ok_icmp_le (C : Cx cc own Ts p l s m args meth c D G A nL) {call : Call} {j : Jmp} {bt bf tgt : Nat} {off : Int} (hdg : decode cc pc = .ok (.if_icmp .le off, 3)) (ht : (pc : Int) + off = (tgt : Int)) (hT : KOK p l e R s m args below meth c Q D G A ρ0 nL Pe tgt (j bt)) (hF : KOK p l e R s m args below meth c Q D G A ρ0 nL Pe (pc + 3) (j bf)) : KOK p l e R s m args below meth c Q D G A ρ0 nL Pe pc (tm_icmp bt bt bf call j) := by
  intro E n z L S M rs h he ρ H locs ls st h0 hE hM hS hL hs
  rcases S with _ | ⟨b, _ | ⟨a, S⟩⟩
  · cases h
  · cases h
  have hs0 := hs
  clear hs
  obtain ⟨v, st1, rfl, hv, hs1⟩ := czs_cons hs0
  obtain ⟨u, st, rfl, hu, hs⟩ := czs_cons hs1
  have h' : cmp3 a b E (fun E => j bt E n z L S M) (fun E => j bt E n z L S M) (fun E => j bf E n z L S M) = some rs := h
  have hi : (∃ x, u = .int x) ∧ ∃ y, v = .int y := cmp3_int h' hu hv
  obtain ⟨⟨x, rfl⟩, ⟨y, rfl⟩⟩ := hi
  obtain ⟨k1, k2, k3⟩ := cmp3_ok h' hE hu hv
  exact lv_icmp_le C.1 C.2.1 hdg ht
   (fun hq => by
    rcases i32_tri x y with t | t | t
    · obtain ⟨E', g1, g2⟩ := go_of (fun _ => rfl) hT he (k1 t)
      exact g2 ρ H locs ls st h0 g1 hM hS hL hs
    · obtain ⟨E', g1, g2⟩ := go_of (fun _ => rfl) hT he (k2 t)
      exact g2 ρ H locs ls st h0 g1 hM hS hL hs
    · exact absurd hq (by intro hq; simp only [i32_lt, i32_le, ← Int32.toInt_inj, Int32.toInt_zero, ne_eq] at hq t; omega))
   (fun hq => by
    rcases i32_tri x y with t | t | t
    · exact absurd hq (by intro hq; simp only [i32_lt, i32_le, ← Int32.toInt_inj, Int32.toInt_zero, ne_eq] at hq t; omega)
    · exact absurd hq (by intro hq; simp only [i32_lt, i32_le, ← Int32.toInt_inj, Int32.toInt_zero, ne_eq] at hq t; omega)
    · obtain ⟨E', g1, g2⟩ := go_of (fun _ => rfl) hF he (k3 t)
      exact g2 ρ H locs ls st h0 g1 hM hS hL hs)
theorem ok_if_le (C : Cx cc own Ts p l s m args meth c D G A nL) {call : Call} {j : Jmp} {bt bf tgt : Nat} {off : Int} (hdg : decode cc pc = .ok (.ifCond .le off, 3)) (ht : (pc : Int) + off = (tgt : Int)) (hT : KOK p l e R s m args below meth c Q D G A ρ0 nL Pe tgt (j bt)) (hF : KOK p l e R s m args below meth c Q D G A ρ0 nL Pe (pc + 3) (j bf)) : KOK p l e R s m args below meth c Q D G A ρ0 nL Pe pc (tm_if bt bt bf call j) := by
  intro E n z L S M rs h he ρ H locs ls st h0 hE hM hS hL hs
  rcases S with _ | ⟨a, S⟩
  · cases h
  have hs0 := hs
  clear hs
  obtain ⟨u, st, rfl, hu, hs⟩ := czs_cons hs0
  have hi : ∃ x, u = .int x := by
    rcases a with x | k | x | o | i | w | k | k
    · exact ⟨_, hu⟩
    · cases h
    · cases h
    · cases o with
      | none => cases h
      | some o => exact ⟨_, hu⟩
    all_goals cases h
  obtain ⟨x, rfl⟩ := hi
  have h' : cmp3 a (vI 0) E (fun E => j bt E n z L S M) (fun E => j bt E n z L S M) (fun E => j bf E n z L S M) = some rs := h
  obtain ⟨k1, k2, k3⟩ := cmp3_ok (y := 0) h' hE hu (show cz G ρ (vI 0) (.int 0) from rfl)
  exact lv_if_le C.1 C.2.1 hdg ht
   (fun hq => by
    rcases i32_tri x 0 with t | t | t
    · obtain ⟨E', g1, g2⟩ := go_of (fun _ => rfl) hT he (k1 t)
      exact g2 ρ H locs ls st h0 g1 hM hS hL hs
    · obtain ⟨E', g1, g2⟩ := go_of (fun _ => rfl) hT he (k2 t)
      exact g2 ρ H locs ls st h0 g1 hM hS hL hs
    · exact absurd hq (by intro hq; simp only [i32_lt, i32_le, ← Int32.toInt_inj, Int32.toInt_zero, ne_eq] at hq t; omega))
   (fun hq => by
    rcases i32_tri x 0 with t | t | t
    · exact absurd hq (by intro hq; simp only [i32_lt, i32_le, ← Int32.toInt_inj, Int32.toInt_zero, ne_eq] at hq t; omega)
    · exact absurd hq (by intro hq; simp only [i32_lt, i32_le, ← Int32.toInt_inj, Int32.toInt_zero, ne_eq] at hq t; omega)
    · obtain ⟨E', g1, g2⟩ := go_of (fun _ => rfl) hF he (k3 t)
      exact g2 ρ H locs ls st h0 g1 hM hS hL hs)
theorem ok_switch (C : Cx cc own Ts p l s m args meth c D G A nL) {call : Call} {j : Jmp} {d : Nat} {ts : List Nat} {dflt hi : Int} {offs : Array Int} {len : Nat} {tg : Nat → Nat} (hdg : decode cc pc = .ok (.tableswitch dflt 0 hi offs, len)) (hh : hi = (ts.length : Int) - 1) (hsz : offs.size = ts.length) (hl : ts.length < 1000) (hd : (pc : Int) + dflt = (tg d : Int)) (ho : ∀ i, i < ts.length → ∃ off, offs[i]? = some off ∧ (pc : Int) + off = (tg (nthN ts d i) : Int)) (hJ : ∀ b, KOK p l e R s m args below meth c Q D G A ρ0 nL Pe (tg b) (j b)) : KOK p l e R s m args below meth c Q D G A ρ0 nL Pe pc (tm_switch d ts call j) := by
  intro E n z L S M rs h he ρ H locs ls st h0 hE hM hS hL hs
  rcases S with _ | ⟨a, S⟩
  · cases h
  have hs0 := hs
  clear hs
  obtain ⟨u, st, rfl, hu, hs⟩ := czs_cons hs0
  rcases a with x | k | x | o | i | w | k | k
  · obtain ⟨h1, h2⟩ := gd_some (show gd (Nat.ble x 4294967295) (j (nthN ts d x) E n z L S M) = some rs from h)
    have hx := Nat.le_of_ble_eq_true h1
    have hu' : u = .int (nI x) := hu
    subst hu'
    have hi := nI_int x
    unfold bi at hi
    have G := hJ (nthN ts d x) E n z L S M rs h2 he ρ H locs ls st h0 hE hM hS hL hs
    by_cases hxl : x < ts.length
    · obtain ⟨off, g1, g2⟩ := ho x hxl
      have e0 : (nI x).toInt = (x : Int) := by rw [hi]; omega
      exact lv_tableIn C.1 C.2.1 hdg (by rw [e0]; omega) (by rw [e0]; omega) (by rw [e0]; simpa using g1) g2 G
    · have e1 : nthN ts d x = d := nthN_out (by omega)
      rw [e1] at G
      exact lv_tableOut C.1 C.2.1 hdg (by rw [hi]; omega) hd G
  all_goals cases h
end OPS
