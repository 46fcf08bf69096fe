/-! tables of known calls: a call that meets an entry's memory takes the entry's end -/
theorem mok_imp {l : Launch} {D : va_G} {G : Gam} {A : Nat → Prop} {yn : MethodName} {ws : List Cond} {rm : Room} {E E' : Env9} {n : Nat} {as as' : List AV} {M M' : Mem} {rs rs' : List Res} (h : MOK l D G A yn ws rm E n as M rs) (hE : envR G E' → envR G E)
    (has : ∀ ρ vals, envR G E' → czs G ρ as' vals → czs G ρ as vals) (hM : ∀ s ρ H, envR G E' → memR D s G A ρ n M' H → memR D s G A ρ n M H)
    (hr : ∀ r ∈ rs, envR G E' → envR G r.2.1 → ∃ r' ∈ rs', r'.1 = r.1 ∧ envR G r'.2.1 ∧ (∀ ρ v, valR G ρ r v → valR G ρ r' v) ∧ ∀ s ρ H, memR D s G A ρ r.2.2.2.2.2.2.1 r.2.2.2.2.2.1 H → memR D s G A ρ r'.2.2.2.2.2.2.1 r'.2.2.2.2.2.1 H) :
    MOK l D G A yn ws rm E' n as' M' rs' := by
  intro ρ vals hE' hvs p e ha hc hk9 s m args below hf happ hP hK
  obtain ⟨p1, p2, p3, p4, p5⟩ := hP
  obtain ⟨k, o, h1, h2, h3, h4⟩ := h ρ vals (hE hE') (has ρ vals hE' hvs) p e ha hc hk9 s m args below hf happ ⟨p1, p2, p3, p4, hM _ _ _ hE' p5⟩ hK
  refine ⟨k, o, h1, h2, h3, ?_⟩
  rcases h4 with ⟨⟨⟨r, hr0, v, ρ', e1, e2, e3, e4, e5⟩, e6⟩, hL⟩ | ⟨q, ho, E1, ce, L, ⟨⟨r, hr0, e1, e2, ρ', e3, e4, e5⟩, e6⟩, hx⟩
  · obtain ⟨r', q1, q2, q3, q4, q5⟩ := hr r hr0 hE' e4
    exact Or.inl ⟨⟨⟨r', q1, v, ρ', e1, q4 _ _ e2, e3, q3, q5 _ _ _ e5⟩, e6⟩, hL⟩
  · obtain ⟨r', q1, q2, q3, q4, q5⟩ := hr r hr0 hE' e4
    exact Or.inr ⟨q, ho, E1, ce, L, ⟨⟨r', q1, by rw [q2]; exact e1, by rw [q2]; exact e2, ρ', e3, q3, q5 _ _ _ e5⟩, e6⟩, hx⟩
abbrev Sm : Type := Nat → Env9 → Nat → List AV → Mem → OR
noncomputable def lay (S : Sm) (c : Call) : Call := fun y E n as M => match S y E n as M with | some rs => some rs | none => tget 9 boTr y c E n as M
noncomputable def layN (S : Sm) (k : Nat) : Call := Nat.rec (motive := fun _ => Call) (fun _ _ _ _ _ => none) (fun _ ih => lay S ih) k
def SmOK (l : Launch) (D : va_G) (G : Gam) (A : Nat → Prop) (S : Sm) : Prop := ∀ y E n as M rs, S y E n as M = some rs → MOK l D G A (infT y).1 (infT y).2.1 (infT y).2.2 E n as M rs
theorem lay_ok {l : Launch} {D : va_G} {G : Gam} {A : Nat → Prop} {S : Sm} {c : Call} (hst : l.stackTraces = false) (hS : SmOK l D G A S) (hc : CallOK l D G A infT c) : CallOK l D G A infT (lay S c) := by
  intro y E n as M rs h
  unfold lay at h
  cases hs : S y E n as M with
  | none =>
    rw [hs] at h
    exact bo_ok hst hc y E n as M rs h
  | some rs' =>
    rw [hs] at h
    exact hS y E n as M rs (by rw [hs]; exact h)
theorem layN_ok {l : Launch} {D : va_G} {G : Gam} {A : Nat → Prop} {S : Sm} (hst : l.stackTraces = false) (hS : SmOK l D G A S) : ∀ k, CallOK l D G A infT (layN S k) := by
  intro k
  induction k with
  | zero => intro y E n as M rs h; exact nomatch (show (none : OR) = some rs from h)
  | succ k ih => exact lay_ok hst hS ih
/-- two tables -/
noncomputable def orS (S1 S2 : Sm) : Sm := fun y E n as M => match S1 y E n as M with | some rs => some rs | none => S2 y E n as M
theorem orS_ok {l : Launch} {D : va_G} {G : Gam} {A : Nat → Prop} {S1 S2 : Sm} (h1 : SmOK l D G A S1) (h2 : SmOK l D G A S2) : SmOK l D G A (orS S1 S2) := by
  intro y E n as M rs h
  unfold orS at h
  cases hs : S1 y E n as M with
  | none => rw [hs] at h; exact h2 y E n as M rs h
  | some rs' => rw [hs] at h; exact h1 y E n as M rs (by rw [hs]; exact h)
/-! memories of which only some cells are told -/
abbrev tpC : Cel := cQ 0 []
/-- a cell; some row of N ints; a row of one long, the number 8 -/
abbrev Sp : Type := Cel ⊕ Nat ⊕ Unit ⊕ (Nat × List AV)
abbrev sC (c : Cel) : Sp := .inl c
abbrev sA (N : Nat) : Sp := .inr (.inl N)
abbrev sO : Sp := .inr (.inr (.inl ()))
/-- an object, of some of whose fields only that they are ints -/
abbrev sW (c : Nat) (fs : List AV) : Sp := .inr (.inr (.inr (c, fs)))
noncomputable def axl (N : Nat) : List (Nat × AV) := Nat.rec [] (fun j ih => (j, vX none) :: ih) N
noncomputable def axC (N : Nat) : Cel := cI 0 N 0 (axl N)
theorem aget_axl : ∀ N j, j < N → aget 0 (axl N) j = vX none := by
  intro N
  induction N with
  | zero => intro j h; exact absurd h (Nat.not_lt_zero _)
  | succ N ih =>
    intro j h
    show aget 0 ((N, vX none) :: axl N) j = _
    rw [aget_cons]
    by_cases q : N = j
    · rw [if_pos q]
    · rw [if_neg q]; exact ih j (by omega)
noncomputable def spC (p : Sp) : Cel := match p with
  | .inl c => c
  | .inr (.inl N) => axC N
  | .inr (.inr (.inl _)) => cL [vL 8]
  | .inr (.inr (.inr q)) => cO q.1 q.2
noncomputable def isO (E : Env9) (c : Cel) : Bool := match c with
  | .inr (.inr (.inr xs)) => (match xs with
    | x :: t => (match t with
      | [] => (match x with
        | .inr (.inr (.inl v)) => Bool.rec false (Nat.beq (toNL (nI (bi (nthE E 8).1)).toInt64) v) (Nat.beq (nthE E 8).1 (nthE E 8).2)
        | .inr (.inr (.inr (.inr (.inl i)))) => Nat.beq i 8
        | _ => false)
      | _ => false)
    | _ => false)
  | _ => false
noncomputable def isR (N : Nat) (c : Cel) : Bool := match c with
  | .inr (.inl q) => Bool.rec false (Nat.beq q.2.1 N) (Nat.beq q.1 0)
  | _ => false
noncomputable def isXn (b : AV) : Bool := match b with | .inr (.inr (.inr (.inl none))) => true | _ => false
noncomputable def leV (a b : AV) : Bool := Bool.rec (eAV a b) (isI a) (isXn b)
noncomputable def leL (l : List AV) : List AV → Bool := List.rec (motive := fun _ => List AV → Bool) (fun m => match m with | [] => true | _ => false) (fun x _ ih m => match m with | y :: m => Bool.rec false (ih m) (leV x y) | [] => false) l
theorem leV_ok {G : Gam} {ρ : List Nat} {a b : AV} {v : Value} (h : leV a b = true) (hc : cz G ρ a v) : cz G ρ b v := by
  unfold leV at h
  cases h1 : isXn b with
  | false =>
    rw [h1] at h
    rw [← eAV_eq (a := a) (b := b) h]
    exact hc
  | true =>
    rw [h1] at h
    have hi : isI a = true := h
    rcases b with n | k | n | o | i | w | n | n
    · cases h1
    · cases h1
    · cases h1
    · cases o with
      | none => exact cz_isI hc hi
      | some o => cases h1
    all_goals cases h1
theorem leL_ok {G : Gam} {ρ : List Nat} : ∀ {l m : List AV} {w : List Value}, leL l m = true → czs G ρ l w → czs G ρ m w := by
  intro l
  induction l with
  | nil =>
    intro m w h hc
    cases m with
    | nil => exact hc
    | cons _ _ => cases h
  | cons x l ih =>
    intro m w h hc
    cases m with
    | nil => cases h
    | cons y m =>
      have h9 : (Bool.rec false (leL l m) (leV x y) : Bool) = true := h
      cases h1 : leV x y with
      | false => rw [h1] at h9; cases h9
      | true =>
        rw [h1] at h9
        obtain ⟨v, w', rfl, g1, g2⟩ := czs_cons hc
        exact ⟨leV_ok h1 g1, ih h9 g2⟩
noncomputable def wkS (E : Env9) (c : Cel) (p : Sp) : Bool := match p with
  | .inl t => eC c t
  | .inr (.inl N) => isR N c
  | .inr (.inr (.inl _)) => isO E c
  | .inr (.inr (.inr q)) => (match c with | .inl o => Bool.rec false (leL o.2 q.2) (Nat.beq o.1 q.1) | _ => false)
abbrev Lst : Type := List (Nat × Sp)
noncomputable def setL (l : Lst) : Mem := List.rec (motive := fun _ => Mem) (trep tpC 9) (fun q _ ih => tset 9 ih q.1 (spC q.2)) l
noncomputable def wkL (E : Env9) (M : Mem) (l : Lst) : Bool := List.rec true (fun q _ ih => Bool.rec false ih (wkS E (tget 9 M q.1) q.2)) l
theorem axC_R {s : State} {G : Gam} {ρ : List Nat} {q : Nat × Nat × Nat × List (Nat × AV)} {e : va_E} (h0 : q.1 = 0) (hc : celR s G ρ (.inr (.inl q)) e) : celR s G ρ (axC q.2.1) e := by
  obtain ⟨cA, f, h1, h2, h3, h4, h5⟩ := hc
  exact ⟨cA, f, h1, (by rw [h0] at h2; exact h2), h3, Nat.zero_le _, fun j hj => (by show cz G ρ (aget 0 (axl q.2.1) j) _; rw [aget_axl _ j hj]; exact ⟨_, rfl⟩)⟩
theorem wkS_ok {s : State} {G : Gam} {ρ : List Nat} {E : Env9} {c : Cel} {p : Sp} {e : va_E} (hE : envR G E) (h : wkS E c p = true) (hc : celR s G ρ c e) : celR s G ρ (spC p) e := by
  rcases p with t | N | u | o
  · rw [eC_eq (a := c) (b := t) h] at hc
    exact hc
  · rcases c with q | q | q | q
    · cases h
    · have h9 : (Bool.rec false (Nat.beq q.2.1 N) (Nat.beq q.1 0) : Bool) = true := h
      cases h1 : Nat.beq q.1 0 with
      | false => rw [h1] at h9; cases h9
      | true =>
        rw [h1] at h9
        have := axC_R (Nat.eq_of_beq_eq_true h1) hc
        rw [Nat.eq_of_beq_eq_true h9] at this
        exact this
    · cases h
    · cases h
  · rcases c with q | q | q | xs
    · cases h
    · cases h
    · cases h
    · rcases xs with _ | ⟨x, t⟩
      · cases h
      · cases t with
        | cons _ _ => cases h
        | nil =>
          rcases x with n | k | n | o | i | w | n | n
          · cases h
          · cases h
          · have h9 : (Bool.rec false (Nat.beq (toNL (nI (bi (nthE E 8).1)).toInt64) n) (Nat.beq (nthE E 8).1 (nthE E 8).2) : Bool) = true := h
            cases h1 : Nat.beq (nthE E 8).1 (nthE E 8).2 with
            | false => rw [h1] at h9; cases h9
            | true =>
              rw [h1] at h9
              have e1 := envR_pt hE h1
              have e2 : toNL (nI (bi (nthE E 8).1)).toInt64 = n := Nat.eq_of_beq_eq_true h9
              obtain ⟨cA, f, g1, g2, g3, g4⟩ := hc
              refine ⟨cA, f, g1, g2, g3, fun j hj => ?_⟩
              have hj0 : j = 0 := by have : j < 1 := hj; omega
              subst hj0
              have g5 : Value.long (f 0) = .long (lN n) := g4 0 hj
              show Value.long (f 0) = .long (G.1 8 + nI 0).toInt64
              rw [g5, ← e2, lN_toN, e1]
              show Value.long _ = .long (nI _ + 0).toInt64
              simp
          · cases o <;> cases h
          · have e1 : i = 8 := Nat.eq_of_beq_eq_true h
            subst e1
            exact hc
          all_goals cases h
  · rcases c with q | q | q | q
    · have h9 : (Bool.rec false (leL q.2 o.2) (Nat.beq q.1 o.1) : Bool) = true := h
      cases h1 : Nat.beq q.1 o.1 with
      | false => rw [h1] at h9; cases h9
      | true =>
        rw [h1] at h9
        obtain ⟨vs, g1, g2⟩ := hc
        exact ⟨vs, by rw [← Nat.eq_of_beq_eq_true h1]; exact g1, leL_ok h9 g2⟩
    · cases h
    · cases h
    · cases h
theorem tget_trep {α : Type} (x : α) : ∀ d k, tget d (trep x d) k = x := by
  intro d
  induction d with
  | zero => intro k; rfl
  | succ d ih =>
    intro k
    show tget (d + 1) (show TrT α (d + 1) from (trep x d, trep x d)) k = x
    rw [tget_s]
    by_cases q : 2 ^ d ≤ k
    · rw [if_pos q]; exact ih _
    · rw [if_neg q]; exact ih _
noncomputable def lt9 (l : Lst) : Bool := List.rec true (fun q _ ih => Bool.rec false ih (Nat.ble (q.1 + 1) 512)) l
theorem lt9_cons {q : Nat × Sp} {l : Lst} (h : lt9 (q :: l) = true) : q.1 < 512 ∧ lt9 l = true := by
  have h9 : (Bool.rec false (lt9 l) (Nat.ble (q.1 + 1) 512) : Bool) = true := h
  cases h1 : Nat.ble (q.1 + 1) 512 with
  | false => rw [h1] at h9; cases h9
  | true => rw [h1] at h9; exact ⟨Nat.le_of_ble_eq_true h1, h9⟩
theorem setL_get : ∀ (l : Lst) (k : Nat), lt9 l = true → k < 512 → tget 9 (setL l) k = tpC ∨ ∃ p, (k, p) ∈ l ∧ tget 9 (setL l) k = spC p := by
  intro l
  induction l with
  | nil => intro k _ _; exact Or.inl (tget_trep _ 9 k)
  | cons q l ih =>
    intro k h hk
    obtain ⟨h1, h2⟩ := lt9_cons h
    have e := tget_tset 9 (setL l) q.1 k (spC q.2) h1 hk
    have e' : tget 9 (setL (q :: l)) k = if k = q.1 then spC q.2 else tget 9 (setL l) k := e
    rw [e']
    by_cases hq : k = q.1
    · rw [if_pos hq]
      exact Or.inr ⟨q.2, by rw [hq]; exact List.mem_cons_self, rfl⟩
    · rw [if_neg hq]
      rcases ih k h2 hk with h3 | ⟨p, h3, h4⟩
      · exact Or.inl h3
      · exact Or.inr ⟨p, List.mem_cons_of_mem _ h3, h4⟩
theorem wkL_mem : ∀ {l : Lst} {E : Env9} {M : Mem}, wkL E M l = true → ∀ k p, (k, p) ∈ l → wkS E (tget 9 M k) p = true := by
  intro l
  induction l with
  | nil => intro E M _ k p h; cases h
  | cons q l ih =>
    intro E M h k p hm
    have h9 : (Bool.rec false (wkL E M l) (wkS E (tget 9 M q.1) q.2) : Bool) = true := h
    cases h1 : wkS E (tget 9 M q.1) q.2 with
    | false => rw [h1] at h9; cases h9
    | true =>
      rw [h1] at h9
      rcases List.mem_cons.mp hm with h2 | h2
      · rw [← h2] at h1; exact h1
      · exact ih h9 k p h2
theorem wk_mem {D : va_G} {s : State} {G : Gam} {A : Nat → Prop} {ρ : List Nat} {n : Nat} {E : Env9} {M : Mem} {l : Lst} {H : Heap} (hE : envR G E) (h9 : lt9 l = true) (h : wkL E M l = true) (hM : memR D s G A ρ n M H) : memR D s G A ρ n (setL l) H := by
  obtain ⟨ws, h1, h2, h3, h4, h5, h6⟩ := hM
  refine ⟨ws, h1, h2, h3, fun k q hk => ⟨(h4 k q hk).1, ?_⟩, h5, h6⟩
  have hk9 : k < 512 := by
    have := (List.getElem?_eq_some_iff.mp hk).1
    omega
  rcases setL_get l k h9 hk9 with e | ⟨p, hp, e⟩
  · rw [e]; exact Or.inl rfl
  · rw [e]; exact wkS_ok hE (wkL_mem h k p hp) (h4 k q hk).2
/-! entries -/
/-- kind, value, memory before, memory behind -/
abbrev Ent : Type := Nat × AV × Lst × Lst
noncomputable def chkE (o : OR) (t : Ent) : Bool := match o with
  | some rs => (match rs with | r :: q => (match q with | [] => decide (r.1 = (t.1, 0)) && (eAV r.2.2.1 t.2.1 && (Nat.beq r.2.2.2.2.2.2.1 466 && wkL E0 r.2.2.2.2.2.1 t.2.2.2)) | _ => false) | _ => false)
  | none => false
theorem chkE_is {o : OR} {t : Ent} (h : chkE o t = true) : ∃ r, o = some [r] ∧ r.1 = (t.1, 0) ∧ r.2.2.1 = t.2.1 ∧ r.2.2.2.2.2.2.1 = 466 ∧ wkL E0 r.2.2.2.2.2.1 t.2.2.2 = true := by
  cases o with
  | none => cases h
  | some rs =>
    cases rs with
    | nil => cases h
    | cons r q =>
      cases q with
      | cons _ _ => cases h
      | nil =>
        have h0 : (decide (r.1 = (t.1, 0)) && (eAV r.2.2.1 t.2.1 && (Nat.beq r.2.2.2.2.2.2.1 466 && wkL E0 r.2.2.2.2.2.1 t.2.2.2))) = true := h
        obtain ⟨h1, h0⟩ := Bool.and_eq_true_iff.mp h0
        obtain ⟨h2, h0⟩ := Bool.and_eq_true_iff.mp h0
        obtain ⟨h3, h4⟩ := Bool.and_eq_true_iff.mp h0
        exact ⟨r, rfl, of_decide_eq_true h1, eAV_eq h2, Nat.eq_of_beq_eq_true h3, h4⟩
/-- the entry stands: the machine's run from its memory ends as it says -/
noncomputable def entB (c : Call) (y : Nat) (as0 : List AV) (t : Ent) : Bool := Bool.rec false (Bool.rec false (chkE (c y E0 466 as0 (setL t.2.2.1)) t) (lt9 t.2.2.1)) (lt9 t.2.2.2)
noncomputable def entR (as0 : List AV) (t : Ent) (E : Env9) (n : Nat) (as : List AV) (M : Mem) : OR := Bool.rec none (Bool.rec none (Bool.rec none (some [((t.1, 0), E, t.2.1, [], [], setL t.2.2.2, 466, 0)]) (wkL E M t.2.2.1)) (eL as as0)) (Nat.beq n 466)
theorem entR_is {as0 : List AV} {t : Ent} {E : Env9} {n : Nat} {as : List AV} {M : Mem} {rs : List Res} (h : entR as0 t E n as M = some rs) : n = 466 ∧ as = as0 ∧ wkL E M t.2.2.1 = true ∧ rs = [((t.1, 0), E, t.2.1, [], [], setL t.2.2.2, 466, 0)] := by
  unfold entR at h
  cases h1 : Nat.beq n 466 with
  | false => rw [h1] at h; cases h
  | true =>
    rw [h1] at h
    cases h2 : eL as as0 with
    | false => rw [h2] at h; cases h
    | true =>
      rw [h2] at h
      cases h3 : wkL E M t.2.2.1 with
      | false => rw [h3] at h; cases h
      | true =>
        rw [h3] at h
        exact ⟨Nat.eq_of_beq_eq_true h1, eL_eq _ _ h2, rfl, (Option.some.inj h).symm⟩
theorem ent_ok {l : Launch} {D : va_G} {G : Gam} {A : Nat → Prop} {c : Call} (hc : CallOK l D G A infT c) {y : Nat} {as0 : List AV} {t : Ent} (hB : entB c y as0 t = true) {E : Env9} {n : Nat} {as : List AV} {M : Mem} {rs : List Res} (h : entR as0 t E n as M = some rs) : MOK l D G A (infT y).1 (infT y).2.1 (infT y).2.2 E n as M rs := by
  obtain ⟨rfl, hq, h3, rfl⟩ := entR_is h
  rw [hq]
  unfold entB at hB
  cases k1 : lt9 t.2.2.2 with
  | false => rw [k1] at hB; cases hB
  | true =>
    rw [k1] at hB
    cases k2 : lt9 t.2.2.1 with
    | false => rw [k2] at hB; cases hB
    | true =>
      rw [k2] at hB
      obtain ⟨r, e1, e2, e3, e4, e5⟩ := chkE_is (show chkE (c y E0 466 as0 (setL t.2.2.1)) t = true from hB)
      refine mok_imp (hc y E0 466 as0 (setL t.2.2.1) [r] e1) (fun hE => E0_ok G hE.2) (fun ρ vals _ h => h) (fun s ρ H hE hM => wk_mem hE k2 h3 hM) (fun r' hr' hE hE2 => ?_)
      rw [List.mem_singleton.mp hr']
      refine ⟨_, List.mem_singleton.mpr rfl, e2.symm, hE, fun ρ v hv => ?_, fun s ρ H hM => ?_⟩
      · show (t.1 = 0 ∧ _) ∨ (t.1 = 1 ∧ _)
        have f1 : r.1.1 = t.1 := by rw [e2]
        unfold valR at hv
        rw [f1, e3] at hv
        exact hv
      · rw [e4] at hM
        exact wk_mem (E0_ok G hE.2) k1 e5 hM
noncomputable def nthT (l : List Ent) (d : Ent) : Nat → Ent := List.rec (motive := fun _ => Nat → Ent) (fun _ => d) (fun x _ ih i => Nat.rec x (fun j _ => ih j) i) l
/-- an entry that no memory meets -/
def entN : Ent := (0, vW 3, [(0, .inl (cI 0 1 0 [(0, vI 0)]))], [])
theorem entN_no {as0 : List AV} {E : Env9} {n : Nat} {as : List AV} {M : Mem} {rs : List Res} (h : entR as0 entN E n as M = some rs) : False := by
  have h3 := (entR_is h).2.2.1
  have h4 := wkL_mem h3 0 (.inl (cI 0 1 0 [(0, vI 0)])) List.mem_cons_self
  have h5 : eC (tget 9 M 0) (cI 0 1 0 [(0, vI 0)]) = true := h4
  have h6 := eC_eq h5
  rw [h6] at h5
  cases h5
noncomputable def allB (c : Call) (y : Nat) (as0 : List AV) (l : List Ent) : Bool := List.rec true (fun t _ ih => Bool.rec false ih (entB c y as0 t)) l
theorem nthT_ok {c : Call} {y : Nat} {as0 : List AV} : ∀ {l : List Ent}, allB c y as0 l = true → ∀ k, nthT l entN k = entN ∨ entB c y as0 (nthT l entN k) = true := by
  intro l
  induction l with
  | nil => intro _ k; exact Or.inl rfl
  | cons t l ih =>
    intro h k
    have h9 : (Bool.rec false (allB c y as0 l) (entB c y as0 t) : Bool) = true := h
    cases h1 : entB c y as0 t with
    | false => rw [h1] at h9; cases h9
    | true =>
      rw [h1] at h9
      cases k with
      | zero => exact Or.inr h1
      | succ k => exact ih h9 k
/-- a table of the method y at the arguments as0: the entry by a key out of the memory -/
noncomputable def tabS (y : Nat) (as0 : List AV) (key : Mem → Nat) (l : List Ent) : Sm := fun y' E n as M => Bool.rec none (fN (key M) fun k => entR as0 (nthT l entN k) E n as M) (Nat.beq y' y)
theorem tabS_ok {l : Launch} {D : va_G} {G : Gam} {A : Nat → Prop} {c : Call} (hc : CallOK l D G A infT c) {y : Nat} {as0 : List AV} {key : Mem → Nat} {t : List Ent} (hB : allB c y as0 t = true) : SmOK l D G A (tabS y as0 key t) := by
  intro y' E n as M rs h
  unfold tabS at h
  cases h1 : Nat.beq y' y with
  | false => rw [h1] at h; cases h
  | true =>
    rw [h1] at h
    have h' : fN (key M) (fun k => entR as0 (nthT t entN k) E n as M) = some rs := h
    rw [fN_eq] at h'
    rw [Nat.eq_of_beq_eq_true h1]
    rcases nthT_ok hB (key M) with e | e
    · rw [e] at h'; exact (entN_no h').elim
    · exact ent_ok hc e h'
