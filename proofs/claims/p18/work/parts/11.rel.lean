/-! what the small machine's values and memories say of the real ones -/
/-- the script's numbers; the texts' addresses; the script's address -/
abbrev Gam : Type := (Nat → Int32) × (Nat → Nat) × Nat
def cz (G : Gam) (ρ : List Nat) (a : AV) (v : Value) : Prop := match a with
  | .inl n => v = .int (nI n)
  | .inr (.inl k) => ∃ q, ρ[k]? = some q ∧ v = .ref q
  | .inr (.inr (.inl n)) => v = .long (lN n)
  | .inr (.inr (.inr (.inl none))) => ∃ x, v = .int x
  | .inr (.inr (.inr (.inl (some o)))) => v = .int (G.1 o.1 + nI o.2)
  | .inr (.inr (.inr (.inr (.inl i)))) => v = .long (G.1 (i % 16) + nI (i / 16)).toInt64
  | .inr (.inr (.inr (.inr (.inr (.inl w))))) => (w = 0 ∧ v = .null) ∨ (w = 1 ∧ ∃ q, v = .ref q) ∨ (w = 2 ∧ v = .ref G.2.2) ∨ (4 ≤ w ∧ w < 5000 ∧ v = .ref (G.2.1 (w - 4))) ∨ (5000 ≤ w ∧ (v = .null ∨ ∃ q, v = .ref q))
  | .inr (.inr (.inr (.inr (.inr (.inr (.inl n)))))) => v = .float (UInt32.ofNat n)
  | .inr (.inr (.inr (.inr (.inr (.inr (.inr n)))))) => v = .double (UInt64.ofNat n)
def czs (G : Gam) (ρ : List Nat) : List AV → List Value → Prop
  | [], [] => True
  | a :: l, v :: w => cz G ρ a v ∧ czs G ρ l w
  | _, _ => False
theorem pre_get {ρ ρ' : List Nat} (h : ρ <+: ρ') {k q : Nat} (hk : ρ[k]? = some q) : ρ'[k]? = some q := by
  obtain ⟨t, rfl⟩ := h
  have hl := (List.getElem?_eq_some_iff.mp hk).1
  rw [List.getElem?_append_left hl]
  exact hk
theorem cz_mono {G : Gam} {ρ ρ' : List Nat} (h : ρ <+: ρ') {a : AV} {v : Value} (hc : cz G ρ a v) : cz G ρ' a v := by
  rcases a with n | k | n | o | i | w | n | n
  · exact hc
  · obtain ⟨q, h1, h2⟩ := hc; exact ⟨q, pre_get h h1, h2⟩
  · exact hc
  · cases o <;> exact hc
  · exact hc
  · exact hc
  · exact hc
  · exact hc
theorem czs_mono {G : Gam} {ρ ρ' : List Nat} (h : ρ <+: ρ') : ∀ {l : List AV} {w : List Value}, czs G ρ l w → czs G ρ' l w := by
  intro l
  induction l with
  | nil => intro w hc; cases w <;> exact hc
  | cons a l ih =>
    intro w hc
    cases w with
    | nil => exact hc
    | cons v w => exact ⟨cz_mono h hc.1, ih hc.2⟩
theorem czs_len {G : Gam} {ρ : List Nat} : ∀ {l : List AV} {w : List Value}, czs G ρ l w → l.length = w.length := by
  intro l
  induction l with
  | nil => intro w hc; cases w with
    | nil => rfl
    | cons v w => exact hc.elim
  | cons a l ih =>
    intro w hc
    cases w with
    | nil => exact hc.elim
    | cons v w => rw [List.length_cons, List.length_cons, ih hc.2]
theorem czs_cons {G : Gam} {ρ : List Nat} {a : AV} {l : List AV} {w : List Value} (h : czs G ρ (a :: l) w) : ∃ v w', w = v :: w' ∧ cz G ρ a v ∧ czs G ρ l w' := by
  cases w with
  | nil => exact h.elim
  | cons v w' => exact ⟨v, w', rfl, h.1, h.2⟩
theorem czs_get {G : Gam} {ρ : List Nat} : ∀ {l : List AV} {w : List Value}, czs G ρ l w → ∀ {k : Nat}, k < l.length → ∃ v, w[k]? = some v ∧ cz G ρ (nth l k) v := by
  intro l
  induction l with
  | nil => intro w hc k hk; cases hk
  | cons a l ih =>
    intro w hc k hk
    obtain ⟨v, w', rfl, h1, h2⟩ := czs_cons hc
    cases k with
    | zero => exact ⟨v, rfl, h1⟩
    | succ k =>
      obtain ⟨v', g1, g2⟩ := ih h2 (k := k) (by simpa using hk)
      exact ⟨v', by rw [List.getElem?_cons_succ]; exact g1, g2⟩
theorem czs_set {G : Gam} {ρ : List Nat} {a : AV} {v : Value} (hv : cz G ρ a v) : ∀ {l : List AV} {w : List Value}, czs G ρ l w → ∀ (k : Nat), czs G ρ (nst l k a) (w.set k v) := by
  intro l
  induction l with
  | nil => intro w hc k; cases w with
    | nil => exact hc
    | cons v w => exact hc.elim
  | cons b l ih =>
    intro w hc k
    obtain ⟨u, w', rfl, h1, h2⟩ := czs_cons hc
    cases k with
    | zero => exact ⟨hv, h2⟩
    | succ k => exact ⟨h1, ih h2 k⟩
theorem cz_isI {G : Gam} {ρ : List Nat} {a : AV} {v : Value} (hc : cz G ρ a v) (h : isI a = true) : ∃ x, v = .int x := by
  rcases a with n | k | n | o | i | w | n | n
  · exact ⟨_, hc⟩
  · cases h
  · cases h
  · cases o with
    | none => exact hc
    | some o => exact ⟨_, hc⟩
  · cases h
  · cases h
  · cases h
  · cases h
theorem cz_isJ {G : Gam} {ρ : List Nat} {a : AV} {v : Value} (hc : cz G ρ a v) (h : isJ a = true) : ∃ x, v = .long x := by
  rcases a with n | k | n | o | i | w | n | n
  · cases h
  · cases h
  · exact ⟨_, hc⟩
  · cases h
  · exact ⟨_, hc⟩
  · cases h
  · cases h
  · cases h
theorem cz_isD {G : Gam} {ρ : List Nat} {a : AV} {v : Value} (hc : cz G ρ a v) (h : isD a = true) : ∃ x, v = .double x := by
  rcases a with n | k | n | o | i | w | n | n
  · cases h
  · cases h
  · cases h
  · cases h
  · cases h
  · cases h
  · cases h
  · exact ⟨_, hc⟩
theorem cz_isA {G : Gam} {ρ : List Nat} {a : AV} {v : Value} (hc : cz G ρ a v) (h : isA a = true) : v = .null ∨ ∃ q, v = .ref q := by
  rcases a with n | k | n | o | i | w | n | n
  · cases h
  · obtain ⟨q, -, h2⟩ := hc; exact Or.inr ⟨q, h2⟩
  · cases h
  · cases h
  · cases h
  · rcases hc with ⟨-, h1⟩ | ⟨-, q, h1⟩ | ⟨-, h1⟩ | ⟨-, -, h1⟩ | ⟨-, h1⟩
    · exact Or.inl h1
    · exact Or.inr ⟨q, h1⟩
    · exact Or.inr ⟨_, h1⟩
    · exact Or.inr ⟨_, h1⟩
    · exact h1
  · cases h
  · cases h
theorem cz_isZ {G : Gam} {ρ : List Nat} {a : AV} {v : Value} (hc : cz G ρ a v) (h : isZ a = true) : ∃ k, k ≤ 1 ∧ a = .inl k ∧ v = .int (nI k) := by
  rcases a with n | k | n | o | i | w | n | n
  · exact ⟨n, Nat.le_of_ble_eq_true h, rfl, hc⟩
  all_goals cases h
theorem cz_c1 {G : Gam} {ρ : List Nat} {a : AV} {v : Value} (hc : cz G ρ a v) (h : isC2 a = false) : v.category = 1 := by
  rcases a with n | k | n | o | i | w | n | n
  · rw [show v = _ from hc]; rfl
  · obtain ⟨q, -, h2⟩ := hc; rw [h2]; rfl
  · cases h
  · cases o with
    | none => obtain ⟨x, h2⟩ := hc; rw [h2]; rfl
    | some o => rw [show v = _ from hc]; rfl
  · cases h
  · rcases hc with ⟨-, h1⟩ | ⟨-, q, h1⟩ | ⟨-, h1⟩ | ⟨-, -, h1⟩ | ⟨-, h1 | ⟨q, h1⟩⟩ <;> rw [h1] <;> rfl
  · rw [show v = _ from hc]; rfl
  · cases h
theorem cat_le2 (v : Value) : v.category ≤ 2 := by cases v <;> simp [Value.category]
theorem catS_cons (a : AV) (l : List AV) : catS (a :: l) = if isC2 a = true then catS l + 2 else catS l + 1 := by
  show (Bool.rec (catS l + 1) (catS l + 2) (isC2 a) : Nat) = _
  cases isC2 a <;> rfl
theorem czs_cat {G : Gam} {ρ : List Nat} : ∀ {l : List AV} {w : List Value}, czs G ρ l w → (w.map fun v => v.category).sum ≤ catS l := by
  intro l
  induction l with
  | nil => intro w hc; cases w with
    | nil => exact Nat.le_refl _
    | cons v w => exact hc.elim
  | cons a l ih =>
    intro w hc
    obtain ⟨u, w', rfl, h1, h2⟩ := czs_cons hc
    have h3 := ih h2
    rw [List.map_cons, List.sum_cons, catS_cons]
    by_cases h : isC2 a = true
    · rw [if_pos h]
      have := cat_le2 u
      omega
    · rw [if_neg h]
      have := cz_c1 h1 (by simpa using h)
      omega
def tyOf (t : Nat) : FieldType := match t with | 0 => .int | 1 => .byte | _ => .boolean
def tyK (s : State) (cA : ClassId) (ty : FieldType) : Prop := ArrOfT s cA ty ∧ va_RA s cA ty
def celR (s : State) (G : Gam) (ρ : List Nat) (c : Cel) (e : va_E) : Prop := match c with
  | .inl q => ∃ vs, e = .inr (q.1, vs) ∧ czs G ρ q.2 vs
  | .inr (.inl q) => ∃ (cA : ClassId) (f : Nat → Int32), e = .inl (cA, q.2.1, .inl f) ∧ tyK s cA (tyOf q.1) ∧ q.2.1 ≤ 100000 ∧ q.1 ≤ 2 ∧ ∀ j, j < q.2.1 → cz G ρ (aget q.2.2.1 q.2.2.2 j) (.int (f j))
  | .inr (.inr (.inl q)) => q.2 = [] ∨ ∃ (cA : ClassId) (f : Nat → Option Nat) (r : vw_C), e = .inl (cA, q.2.length, .inr (.inr (.inr (.inr f)))) ∧ vwCl[q.1]? = some r ∧ tyK s cA (.object r.1) ∧ q.2.length ≤ 100000 ∧ ∀ j, j < q.2.length → cz G ρ (nth q.2 j) (va_rf (f j))
  | .inr (.inr (.inr xs)) => ∃ (cA : ClassId) (f : Nat → Int64), e = .inl (cA, xs.length, .inr (.inl f)) ∧ tyK s cA .long ∧ xs.length ≤ 100000 ∧ ∀ j, j < xs.length → cz G ρ (nth xs j) (.long (f j))
theorem celR_mono {s : State} {G : Gam} {ρ ρ' : List Nat} (h : ρ <+: ρ') {c : Cel} {e : va_E} (hc : celR s G ρ c e) : celR s G ρ' c e := by
  rcases c with q | q | q | xs
  · obtain ⟨vs, h1, h2⟩ := hc; exact ⟨vs, h1, czs_mono h h2⟩
  · obtain ⟨cA, f, h1, h2, h3, h4, h5⟩ := hc; exact ⟨cA, f, h1, h2, h3, h4, fun j hj => cz_mono h (h5 j hj)⟩
  · rcases hc with hc | ⟨cA, f, r, h1, h2, h3, h4, h5⟩
    · exact Or.inl hc
    · exact Or.inr ⟨cA, f, r, h1, h2, h3, h4, fun j hj => cz_mono h (h5 j hj)⟩
  · obtain ⟨cA, f, h1, h2, h3, h4⟩ := hc; exact ⟨cA, f, h1, h2, h3, fun j hj => cz_mono h (h4 j hj)⟩
theorem tyK_moved {u U : State} (hvm : u.vm.Alike U.vm) {cA : ClassId} {ty : FieldType} (h : tyK u cA ty) : tyK U cA ty := ⟨arrOfT_moved hvm h.1, h.2.moved hvm⟩
theorem celR_moved {u U : State} (hvm : u.vm.Alike U.vm) {G : Gam} {ρ : List Nat} {c : Cel} {e : va_E} (hc : celR u G ρ c e) : celR U G ρ c e := by
  rcases c with q | q | q | xs
  · exact hc
  · obtain ⟨cA, f, h1, h2, h3⟩ := hc; exact ⟨cA, f, h1, tyK_moved hvm h2, h3⟩
  · rcases hc with hc | ⟨cA, f, r, h1, h2, h3, h4⟩
    · exact Or.inl hc
    · exact Or.inr ⟨cA, f, r, h1, h2, tyK_moved hvm h3, h4⟩
  · obtain ⟨cA, f, h1, h2, h3⟩ := hc; exact ⟨cA, f, h1, tyK_moved hvm h2, h3⟩
def memR (D : va_G) (s : State) (G : Gam) (A : Nat → Prop) (ρ : List Nat) (n : Nat) (M : Mem) (H : Heap) : Prop :=
  ∃ ws : va_W, ws.length = n ∧ ρ.length = n ∧ n ≤ 512 ∧ (∀ (k : Nat) (q : Nat × va_E), ws[k]? = some q → ρ[k]? = some q.1 ∧ celR s G ρ (tget 9 M k) q.2) ∧ va_P D vwCl ws H ∧ va_D A ws
theorem memR_moved {D : va_G} {u U : State} {G : Gam} {A : Nat → Prop} {ρ : List Nat} {n : Nat} {M : Mem} {H : Heap} (hvm : u.vm.Alike U.vm) (h : memR D u G A ρ n M H) : memR D U G A ρ n M H := by
  obtain ⟨ws, h1, h2, h3, h4, h5, h6⟩ := h
  exact ⟨ws, h1, h2, h3, fun k q hk => ⟨(h4 k q hk).1, celR_moved hvm (h4 k q hk).2⟩, h5, h6⟩
def envR (G : Gam) (E : Env9) : Prop := (∀ i, (nthE E i).1 ≤ bi (toN (G.1 i)) ∧ bi (toN (G.1 i)) ≤ (nthE E i).2) ∧ G.1 4000 = G.1 1 - G.1 1 / 3 * 3
def locR (G : Gam) (ρ : List Nat) (ls : Array Slot) (nL : Nat) (L : List AV) : Prop := ls.size = nL ∧ lv_wf ls ∧ L.length = nL ∧ ∀ i, nth L i = vW 3 ∨ ∃ v, cz G ρ (nth L i) v ∧ ls[i]? = some (.val v)
theorem locR_mono {G : Gam} {ρ ρ' : List Nat} (h : ρ <+: ρ') {ls : Array Slot} {nL : Nat} {L : List AV} (hL : locR G ρ ls nL L) : locR G ρ' ls nL L :=
  ⟨hL.1, hL.2.1, hL.2.2.1, fun i => (hL.2.2.2 i).elim Or.inl fun ⟨v, h1, h2⟩ => Or.inr ⟨v, cz_mono h h1, h2⟩⟩
/-- the listed locals -/
theorem locR_list {G : Gam} {ρ : List Nat} {ls : Array Slot} {nL : Nat} {L : List AV} (h : locR G ρ ls nL L) : ∃ lv : List (Nat × Value), lv_has ls nL lv ∧ (∀ i, nth L i = vW 3 ∨ ∃ v, cz G ρ (nth L i) v ∧ (i, v) ∈ lv) := by
  refine ⟨(List.range nL).filterMap (fun i => match ls[i]? with | some (Slot.val v) => some (i, v) | _ => none), ⟨h.1, h.2.1, fun q hq => ?_⟩, fun i => ?_⟩
  · obtain ⟨i, -, hi⟩ := List.mem_filterMap.mp hq
    cases hs : ls[i]? with
    | none => rw [hs] at hi; cases hi
    | some x =>
      rw [hs] at hi
      cases x with
      | unset => cases hi
      | second => cases hi
      | val v => cases hi; exact hs
  · rcases h.2.2.2 i with h1 | ⟨v, h1, h2⟩
    · exact Or.inl h1
    · refine Or.inr ⟨v, h1, List.mem_filterMap.mpr ⟨i, List.mem_range.mpr ?_, by rw [h2]⟩⟩
      rw [← h.1]
      exact (Array.getElem?_eq_some_iff.mp h2).1
theorem nth_out : ∀ {L : List AV} {i : Nat}, L.length ≤ i → nth L i = vW 3 := by
  intro L
  induction L with
  | nil => intro i _; rfl
  | cons x t ih =>
    intro i h
    cases i with
    | zero => simp at h
    | succ i => exact ih (by simpa using h)
theorem lk2_spec {L : List AV} {i : Nat} (h : lk2 L i = true) : ∀ j, j + 1 = i → isC2 (nth L j) = false := by
  intro j hj
  subst hj
  have h' : (Bool.rec true false (isC2 (nth L j)) : Bool) = true := h
  cases hc : isC2 (nth L j) with
  | false => rfl
  | true => rw [hc] at h'; cases h'
theorem locR_st {G : Gam} {ρ : List Nat} {ls' : Array Slot} {nL : Nat} {L : List AV} {lv : List (Nat × Value)} {i : Nat} {a : AV} {v : Value} (hcov : ∀ i, nth L i = vW 3 ∨ ∃ v, cz G ρ (nth L i) v ∧ (i, v) ∈ lv) (hlen : L.length = nL) (hk : lk2 L i = true) (hv : cz G ρ a v)
    (h : lv_has ls' nL ((i, v) :: lv.filter (fun q => !(q.1 == i) && !(q.1 + 1 == i && q.2.category == 2)))) : locR G ρ ls' nL (nst L i a) := by
  refine ⟨h.1, h.2.1, by rw [nst_len]; exact hlen, fun j => ?_⟩
  rw [nth_nst]
  by_cases hj : j = i ∧ i < L.length
  · rw [if_pos hj, hj.1]
    exact Or.inr ⟨v, hv, h.2.2 (i, v) List.mem_cons_self⟩
  · rw [if_neg hj]
    rcases hcov j with h1 | ⟨u, h1, h2⟩
    · exact Or.inl h1
    · by_cases hji : j = i
      · exact Or.inl (nth_out (by rcases Nat.lt_or_ge i L.length with q | q; exact absurd ⟨hji, q⟩ hj; rw [hji]; exact q))
      · refine Or.inr ⟨u, h1, h.2.2 (j, u) (List.mem_cons_of_mem _ (List.mem_filter.mpr ⟨h2, ?_⟩))⟩
        have e1 : (j == i) = false := by simpa using hji
        by_cases hj1 : j + 1 = i
        · have h3 := cz_c1 h1 (lk2_spec hk j hj1)
          simp [e1, h3]
        · have e2 : (j + 1 == i) = false := by simpa using hj1
          simp [e1, e2]
theorem locR_st2 {G : Gam} {ρ : List Nat} {ls' : Array Slot} {nL : Nat} {L : List AV} {lv : List (Nat × Value)} {i : Nat} {a : AV} {v : Value} (hcov : ∀ i, nth L i = vW 3 ∨ ∃ v, cz G ρ (nth L i) v ∧ (i, v) ∈ lv) (hlen : L.length = nL) (hk : lk2 L i = true) (hv : cz G ρ a v)
    (h : lv_has ls' nL ((i, v) :: lv.filter (fun q => !(q.1 == i) && (!(q.1 == i + 1) && !(q.1 + 1 == i && q.2.category == 2))))) : locR G ρ ls' nL (nst (nst L i a) (i + 1) (vW 3)) := by
  refine ⟨h.1, h.2.1, by rw [nst_len, nst_len]; exact hlen, fun j => ?_⟩
  rw [nth_nst]
  by_cases hj : j = i + 1 ∧ i + 1 < (nst L i a).length
  · rw [if_pos hj]
    exact Or.inl rfl
  · rw [if_neg hj, nth_nst]
    rw [nst_len] at hj
    by_cases hji : j = i ∧ i < L.length
    · rw [if_pos hji, hji.1]
      exact Or.inr ⟨v, hv, h.2.2 (i, v) List.mem_cons_self⟩
    · rw [if_neg hji]
      rcases hcov j with h1 | ⟨u, h1, h2⟩
      · exact Or.inl h1
      · by_cases e0 : j = i
        · exact Or.inl (nth_out (by rcases Nat.lt_or_ge i L.length with q | q; exact absurd ⟨e0, q⟩ hji; rw [e0]; exact q))
        · by_cases e9 : j = i + 1
          · exact Or.inl (nth_out (by rcases Nat.lt_or_ge (i + 1) L.length with q | q; exact absurd ⟨e9, q⟩ hj; rw [e9]; exact q))
          · refine Or.inr ⟨u, h1, h.2.2 (j, u) (List.mem_cons_of_mem _ (List.mem_filter.mpr ⟨h2, ?_⟩))⟩
            have e1 : (j == i) = false := by simpa using e0
            have e3 : (j == i + 1) = false := by simpa using e9
            by_cases hj1 : j + 1 = i
            · have h3 := cz_c1 h1 (lk2_spec hk j hj1)
              simp [e1, e3, h3]
            · have e2 : (j + 1 == i) = false := by simpa using hj1
              simp [e1, e2, e3]
theorem nI_toN (x : Int32) : nI (toN x) = x := by
  unfold nI toN
  apply Int32.toBitVec_inj.mp
  simp
theorem lN_toN (x : Int64) : lN (toNL x) = x := by
  unfold lN toNL
  apply Int64.toBitVec_inj.mp
  simp
theorem nI_mod (n : Nat) : nI (n % 4294967296) = nI n := by
  unfold nI
  apply Int32.toBitVec_inj.mp
  apply BitVec.eq_of_toNat_eq
  simp
theorem nI_ad9 (x y : Nat) : nI ((x + y) % 4294967296) = nI x + nI y := by
  rw [nI_mod]
  unfold nI
  apply Int32.toBitVec_inj.mp
  apply BitVec.eq_of_toNat_eq
  simp
theorem nI_sub (x y : Nat) : nI ((x + (4294967296 - y % 4294967296)) % 4294967296) = nI x - nI y := by
  rw [nI_mod]
  unfold nI
  apply Int32.toBitVec_inj.mp
  apply BitVec.eq_of_toNat_eq
  simp [BitVec.toNat_sub]
  omega
theorem nI_int (n : Nat) : (nI n).toInt = ((bi n : Nat) : Int) - 2147483648 := by
  have h : (nI n).toInt = (BitVec.ofNat 32 n).toInt := rfl
  have h2 : (BitVec.ofNat 32 n).toInt = Int.bmod (n : Int) (2 ^ 32 : Nat) := by first | exact BitVec.toInt_ofNat' | simp [BitVec.toInt_ofNat'] | (rw [BitVec.toInt_eq_toNat_bmod]; simp)
  rw [h, h2]
  unfold bi
  unfold Int.bmod
  simp only [show ((2 ^ 32 : Nat) : Int) = 4294967296 from rfl]
  split <;> omega
theorem nI_lt_iff (x y : Nat) : nI x < nI y ↔ bi x < bi y := by
  rw [Int32.lt_iff_toInt_lt, nI_int, nI_int]; omega
theorem nI_eq_iff (x y : Nat) : nI x = nI y ↔ bi x = bi y := by
  constructor
  · intro h
    have h1 := nI_int x
    rw [h, nI_int] at h1
    omega
  · intro h
    apply Int32.toInt_inj.mp
    rw [nI_int, nI_int, h]
theorem bi_bi {x : Int32} {n : Nat} (h : x = nI n) : bi (toN x) = bi n := (nI_eq_iff _ _).mp (by rw [nI_toN, h])
