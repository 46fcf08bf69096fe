/-! the rows before: keeps -/
def good9 : List (Nat × Int × Int) := [(3, 1, 30), (4, 1, 12), (0, 1, 12), (1, 1, 8)]
noncomputable def gdR (c o : Nat) : List Fct := good9.map (fun q => ((.inl c, (0, 0, ((o + q.1 : Nat) : Int))), q.2))
theorem good_of {M : Mem} {c o : Nat} (h : PrFa kd0 [] (gdR c o) M) : GoodR M c o :=
  ⟨fact_at h (c := c) (i := o + 3) (lo := 1) (hi := 30) List.mem_cons_self, fact_at h (c := c) (i := o + 4) (lo := 1) (hi := 12) (List.mem_cons_of_mem _ List.mem_cons_self), fact_at h (c := c) (i := o + 0) (lo := 1) (hi := 12) (List.mem_cons_of_mem _ (List.mem_cons_of_mem _ List.mem_cons_self)), fact_at h (c := c) (i := o + 1) (lo := 1) (hi := 8) (List.mem_cons_of_mem _ (List.mem_cons_of_mem _ (List.mem_cons_of_mem _ List.mem_cons_self)))⟩
theorem of_good {M : Mem} {c o : Nat} (hc : c < 466) (h : GoodR M c o) : PrFa kd0 [] (gdR c o) M := by
  intro a ha
  obtain ⟨h1, h2, h3, h4⟩ := h
  rcases List.mem_cons.mp ha with e | ha
  · rw [e]; exact fact_of (c := c) (i := o + 3) hc h1
  rcases List.mem_cons.mp ha with e | ha
  · rw [e]; exact fact_of (c := c) (i := o + 4) hc h2
  rcases List.mem_cons.mp ha with e | ha
  · rw [e]; exact fact_of (c := c) (i := o + 0) hc h3
  · rw [List.mem_singleton.mp ha]; exact fact_of (c := c) (i := o + 1) hc h4
theorem prFa_app {l m : List Fct} {M : Mem} (h1 : PrFa kd0 [] l M) (h2 : PrFa kd0 [] m M) : PrFa kd0 [] (l ++ m) M := fun a ha => (List.mem_append.mp ha).elim (h1 a) (h2 a)
theorem prFa_l {l m : List Fct} {M : Mem} (h : PrFa kd0 [] (l ++ m) M) : PrFa kd0 [] l M := fun a ha => h a (List.mem_append_left _ ha)
theorem prFa_r {l m : List Fct} {M : Mem} (h : PrFa kd0 [] (l ++ m) M) : PrFa kd0 [] m M := fun a ha => h a (List.mem_append_right _ ha)
theorem prFa_1 {c i : Nat} {lo hi : Int} {M : Mem} (hc : c < 466) (h1 : lo ≤ rdI M c i) (h2 : rdI M c i ≤ hi) : PrFa kd0 [] [((.inl c, (0, 0, (i : Int))), lo, hi)] M := fun a ha => by rw [List.mem_singleton.mp ha]; exact fact_of hc ⟨h1, h2⟩
theorem fact_1 {c i : Nat} {lo hi : Int} {M : Mem} (h : PrFa kd0 [] [((.inl c, (0, 0, (i : Int))), lo, hi)] M) : lo ≤ rdI M c i ∧ rdI M c i ≤ hi := fact_at h List.mem_cons_self
noncomputable def fM (i : Nat) (lo hi : Int) : Fct := ((.inl 452, (0, 0, (i : Int))), lo, hi)
noncomputable def wRow (κ o : Nat) : Wrg := [(κ, (o : Int), ((o + 399 : Nat) : Int)), (κ, ((o + 400 : Nat) : Int), ((o + 626 : Nat) : Int))]
theorem wRow_in {κ o i : Nat} (hi : i < 627) : inW (wRow κ o) κ ((o + i : Nat) : Int) = true := by
  by_cases h : i < 400
  · exact inW_of (a := (κ, (o : Int), ((o + 399 : Nat) : Int))) rfl (by show (o : Int) ≤ _; omega) (by show ((o + i : Nat) : Int) ≤ ((o + 399 : Nat) : Int); omega) List.mem_cons_self
  · exact inW_of (a := (κ, ((o + 400 : Nat) : Int), ((o + 626 : Nat) : Int))) rfl (by show ((o + 400 : Nat) : Int) ≤ _; omega) (by show ((o + i : Nat) : Int) ≤ ((o + 626 : Nat) : Int); omega) (List.mem_cons_of_mem _ List.mem_cons_self)
/-- a row copied -/
noncomputable def ctCp (a a0 b b0 : Nat) : Ctr := ([(1, (a : Int), 0), (0, (a0 : Int), (a0 : Int)), (1, (b : Int), 0), (0, (b0 : Int), (b0 : Int))], gdR a a0, [], wRow (kd0 b) b0, [((1, 0), (1, 0, 0), gdR b b0, [])])
theorem cp_any {Ev : Env9} {Inv : Mem → Prop} {a a0 b b0 : Nat} (ha : a < 466) (hb : b < 466) (hk : allN 466 (fun j => Bool.rec true (Nat.beq j b) (Nat.beq (kd0 j) (kd0 b))) = true) (hab : a ≠ b ∨ b0 + 627 ≤ a0 ∨ a0 + 627 ≤ b0) (h : cpChk a a0 b b0) (hInv : ∀ M M', TI kd0 sh0 rt0 bd0 M → Inv M → CpR a a0 b b0 627 M M' → Inv M') : ∀ k, 1 ≤ k → CtrOK kd0 sh0 rt0 bd0 Inv Ev (runM k) 178 (ctCp a a0 b b0) :=
  cp_ctr hR9 mdCp_ok ha hb (ku_of hk) hab h (fun i hi => wRow_in hi) hInv good9 (by decide)
noncomputable def mdK : MDT := (3, nb_X11_keeps, [])
noncomputable def wKp : Wrg := ct_224.2.2.2.1
noncomputable def ctKp (c : Nat) : Ctr := ([(1, 452, 0), (1, (c : Int), 0)], gdR c 0, [], wKp, [((1, 0), (1, 0, 0), [], [])])
noncomputable def loKp (c : Nat) (p : Option APt) : List (Option APt) := [some (1, 452, 0), some (1, (c : Int), 0), p]
noncomputable def ctKm (c m : Nat) : Nat → List Ctr := ctL [(178, ctCp c 0 457 (627 * m))]
noncomputable def chK1 (c m : Nat) : Bool := xseg kd0 sh0 rt0 bd0 un0 (inW wKp) PRK MT0 (ctKm c m) 1 mdK [] [((1, 0), (1, 0, 0), fM 5 (m + 1) (m + 1) :: gdR 457 (627 * m), [])] 1000 0 (loKp c none, fM 5 m m :: gdR c 0, [])
noncomputable def chK2 (c : Nat) : Bool := xseg kd0 sh0 rt0 bd0 un0 pr9 pr9 MT9 CT9 0 mdK [(2, [(loKp c (some (0, 0, 0)), [], [])])] [] 1000 0 (loKp c none, [fM 5 8 8], [])
noncomputable def chK4 (c : Nat) : Bool := xseg kd0 sh0 rt0 bd0 un0 (inW wKp) PRK MT0 (ctKm c 7) 1 mdK [] [((1, 0), (1, 0, 0), fM 5 8 8 :: gdR 457 4389, [])] 1000 2 (loKp c (some (0, 4389, 4389)), fM 5 8 8 :: gdR c 0, [])
def KpChk (c : Nat) : Prop := allN 8 (chK1 c) = true ∧ chK2 c = true ∧ chK4 c = true ∧ (∀ m, m < 8 → cpChk c 0 457 (627 * m))
theorem tyPast : ytyp kd0 sh0 452 ((5 : Nat) : Int) = true := by decide +kernel
theorem bdPast : bd0 (kd0 452) ((5 : Nat) : Int) = (0, 8) := by decide +kernel
theorem pastM {M : Mem} (hT : TI kd0 sh0 rt0 bd0 M) : 0 ≤ rdI M 452 5 ∧ rdI M 452 5 ≤ 8 := by
  obtain ⟨_, j, h1, h2⟩ := ytyp_ok hT tyPast
  have e : j = 5 := by omega
  subst e
  rw [bdPast] at h2
  exact h2
theorem wKp_in {i : Nat} (h : i < 5016) : inW wKp 35 ((i : Nat) : Int) = true := by
  have h1 := allN_ok (allN_ok (n := 8) (f := fun m => allN 627 (fun j => inW wKp 35 ((627 * m + j : Nat) : Int))) (by decide +kernel) (i / 627) (by omega)) (i % 627) (by omega)
  rw [show 627 * (i / 627) + i % 627 = i by omega] at h1
  exact h1
theorem wKp_5 : inW wKp 13 ((5 : Nat) : Int) = true := by decide +kernel
theorem kd_457 : kd0 457 = 35 := by decide +kernel
noncomputable def isObjF (k ci i ft : Nat) : Bool := match sh0 (kd0 k) with | .inl q => Bool.rec false (match yat q.2 i with | some f => Nat.beq f ft | none => false) (Nat.beq q.1 ci) | _ => false
theorem isObjF_ok {k ci i ft : Nat} (h : isObjF k ci i ft = true) : ∃ l, sh0 (kd0 k) = .inl (ci, l) ∧ l[i]? = some ft := by
  unfold isObjF at h
  rcases hs : sh0 (kd0 k) with q | q | q | q
  · rw [hs] at h
    obtain ⟨h1, h2⟩ := band (a := Nat.beq q.1 ci) (b := match yat q.2 i with | some f => Nat.beq f ft | none => false) h
    obtain ⟨q1, q2⟩ := q
    have h1 : q1 = ci := Nat.eq_of_beq_eq_true h1
    refine ⟨q2, by rw [h1], ?_⟩
    have h2 : (match yat q2 i with | some f => Nat.beq f ft | none => false : Bool) = true := h2
    rw [← yat_eq]
    cases hy : yat q2 i with
    | none => rw [hy] at h2; cases h2
    | some f => rw [hy] at h2; rw [Nat.eq_of_beq_eq_true (show Nat.beq f ft = true from h2)]
  all_goals rw [hs] at h; cases h
theorem ref_of {M : Mem} (hT : TI kd0 sh0 rt0 bd0 M) {k ci i f : Nat} (hk : k < 466) (h : isObjF k ci i (f + 2) = true) : ∃ fs, tget 9 M k = cO ci fs ∧ i < fs.length ∧ nth fs i = vR (rt0 k i) := by
  obtain ⟨l, h1, h2⟩ := isObjF_ok h
  have h3 := hT k hk
  unfold cOK at h3
  rw [h1] at h3
  obtain ⟨fs, e1, e2, e3⟩ := h3
  have e4 := e3 i (f + 2) h2
  exact ⟨fs, e1, by rw [e2]; exact (List.getElem?_eq_some_iff.mp h2).1, e4.1⟩
theorem kp_f : isObjF 452 11 4 (35 + 2) = true := by decide +kernel
theorem kp_r : rt0 452 4 = 457 := Nat.eq_of_beq_eq_true (by decide +kernel)
theorem row_457 : isRow 457 5016 = true := by decide +kernel
theorem bdE_457 : ∀ j, j < 4389 → bdE 457 (0 + j) 457 (627 + j) = true := by
  intro i h
  have h1 := allN_ok (allN_ok (n := 7) (f := fun m => allN 627 (fun j => bdE 457 (0 + (627 * m + j)) 457 (627 + (627 * m + j)))) (by decide +kernel) (i / 627) (by omega)) (i % 627) (by omega)
  rw [show 627 * (i / 627) + i % 627 = i by omega] at h1
  exact h1
section KPH
variable {call : Call} {Ev : Env9} {d c : Nat} {ct : TrT Blk d}
theorem kp_b2 (h : MdC mdK d ct) : tget d ct 2 = ([op_ld isI 2, op_push (vI 4389)], tm_icmp 3 4 4) := h 2 _ rfl
theorem kp_b3 (h : MdC mdK d ct) : tget d ct 3 = ([op_ld isA 0, op_getf 11 4, op_ld isI 2, op_ld isA 0, op_getf 11 4, op_ld isI 2, op_push (vI 627), op_add, op_iald 0, op_iast, op_iinc 2 1], tm_goto 2) := h 3 _ rfl
theorem kp_s2 (h : MdC mdK d ct) {f k : Nat} {M : Mem} (hk : k < 4389) : runF call d ct (f + 1) 2 Ev 466 0 [vR 452, vR c, vI k] [] M = runF call d ct f 3 Ev 466 0 [vR 452, vR c, vI k] [] M := by
  have hl : sg k < sg 4389 := by
    rw [sg_eq (show k ≤ 2147483647 by omega), sg_eq (show 4389 ≤ 2147483647 by decide)]
    omega
  rw [rF9 f (kp_b2 h), rBc, rBc, rBn, ldn, show nth [vR 452, vR c, vI k] 2 = vI k from rfl, isIv, gdt, pun, icn, c3_eq, if_pos (bi_lt_iff.mpr hl)]
theorem kp_s3 (h : MdC mdK d ct) {f k p : Nat} {fs : List AV} {M : Mem} (hO : tget 9 M 452 = cO 11 fs) (hl : 4 < fs.length) (hr : nth fs 4 = vR 457) (hA : tget 9 M 457 = cI 0 5016 p []) (hk : k < 4389) : runF call d ct (f + 1) 3 Ev 466 0 [vR 452, vR c, vI k] [] M = runF call d ct f 2 Ev 466 0 [vR 452, vR c, vI (k + 1)] [] (tset 9 M 457 (cI 0 5016 (pset p k (pget p (k + 627))) [])) := by
  rw [rF9 f (kp_b3 h), rBc, rBc, rBc, rBc, rBc, rBc, rBc, rBc, rBc, rBc, rBc, rBn,
    ldn, show nth [vR 452, vR c, vI k] 0 = vR 452 from rfl, isAv, gdt, op_getf_n hO hl, hr, ldn, show nth [vR 452, vR c, vI k] 2 = vI k from rfl, isIv, gdt,
    ldn, show nth [vR 452, vR c, vI k] 0 = vR 452 from rfl, isAv, gdt, op_getf_n hO hl, hr, ldn, show nth [vR 452, vR c, vI k] 2 = vI k from rfl, isIv, gdt, pun, addn,
    Nat.mod_eq_of_lt (show k + 627 < 4294967296 by omega), op_iald_n hA (show k + 627 < 5016 by omega), op_iast_n hA (show k < 5016 by omega),
    incn 2 1 k 0 _ _ _ _ (show nth [vR 452, vR c, vI k] 2 = vI k from rfl) (show lk2 [vR 452, vR c, vI k] 2 = true from rfl), Nat.mod_eq_of_lt (show k + 1 < 4294967296 by omega), gotn]
  rfl
theorem kp_loop (h : MdC mdK d ct) {F : Nat} {P : Res → Prop} {M : Mem} (hN : ∀ f, F ≤ f → ∀ M1, CpR 457 627 457 0 4389 M M1 → TI kd0 sh0 rt0 bd0 M1 → OKo (runF call d ct f 2 Ev 466 0 [vR 452, vR c, vI 4389] [] M1) P) : ∀ (m k f : Nat) (M1 : Mem), k + m = 4389 → 2 * m + F ≤ f → CpR 457 627 457 0 k M M1 → TI kd0 sh0 rt0 bd0 M1 → OKo (runF call d ct f 2 Ev 466 0 [vR 452, vR c, vI k] [] M1) P := by
  intro m
  induction m with
  | zero =>
    intro k f M1 hk hf g1 g2
    have e : k = 4389 := by omega
    subst e
    exact hN f (by omega) M1 g1 g2
  | succ m ih =>
    intro k f M1 hk hf g1 g2
    obtain ⟨f', rfl⟩ : ∃ f', f = f' + 1 + 1 := ⟨f - 2, by omega⟩
    obtain ⟨p, u1, u2, u3⟩ := row_of g2 (by omega) row_457
    obtain ⟨fs, o1, o2, o3⟩ := ref_of g2 (by omega) kp_f
    rw [kp_r] at o3
    rw [kp_s2 h (show k < 4389 by omega), kp_s3 h o1 o2 o3 u1 (show k < 4389 by omega)]
    have hbd := bdE_457 k (by omega)
    obtain ⟨y1, y2⟩ := band (a := ieq (bd0 (kd0 457) ((0 + k : Nat) : Int)).1 (bd0 (kd0 457) ((627 + k : Nat) : Int)).1) (b := ieq (bd0 (kd0 457) ((0 + k : Nat) : Int)).2 (bd0 (kd0 457) ((627 + k : Nat) : Int)).2) hbd
    have y1 := ieq_iff.mp y1
    have y2 := ieq_iff.mp y2
    rw [show 0 + k = k by omega, show 627 + k = k + 627 by omega] at y1 y2
    have hx := u3 (k + 627) (by omega)
    have hT2 := row_set (j := k) g2 (by omega) row_457 u1 (pget_lt p (k + 627)) ⟨by rw [y1]; exact hx.1, by rw [y2]; exact hx.2⟩
    refine ih (k + 1) f' _ (by omega) (by omega) ⟨fun j hj => ?_, fun k' hk' i' hi' => ?_⟩ hT2
    · rw [rdI_self (by omega)]
      show sg (pget (pset p k (pget p (k + 627))) (0 + j)) = _
      rw [pget_pset]
      have hr : ∀ i, rdI M1 457 i = sg (pget p i) := fun i => by unfold rdI; rw [u1]; rfl
      by_cases q : j = k
      · rw [if_pos (by omega), Nat.mod_eq_of_lt (pget_lt _ _), q, ← hr, show 627 + k = k + 627 by omega]
        exact g1.2 457 (by omega) (k + 627) (by omega)
      · rw [if_neg (by omega), ← hr]
        exact g1.1 j (by omega)
    · by_cases q : k' = 457
      · rw [q, rdI_self (by omega)]
        show sg (pget (pset p k (pget p (k + 627))) i') = _
        have hr : ∀ i, rdI M1 457 i = sg (pget p i) := fun i => by unfold rdI; rw [u1]; rfl
        rw [pget_pset, if_neg (by omega), ← hr]
        exact g1.2 457 (by omega) i' (by omega)
      · rw [rdI_other (by omega) hk' q]
        exact g1.2 k' hk' i' (Or.inl q)
end KPH
theorem sg_is {m x : Nat} (hm : m ≤ 100000) (hx : x < 4294967296) (h1 : (m : Int) ≤ sg x) (h2 : sg x ≤ (m : Int)) : x = m := by
  have h3 : sg x = (m : Int) := Int.le_antisymm h2 h1
  clear h1 h2
  unfold sg bi at h3
  omega
theorem lok_kp {c n : Nat} (hn : n ≤ 100000) {L : List AV} (h : lOK kd0 (loKp c (some (0, (n : Int), (n : Int)))) L) : L = [vR 452, vR c, vI n] := by
  cases L with
  | nil => exact h.elim
  | cons x L =>
    cases L with
    | nil => exact h.2.elim
    | cons y L =>
      cases L with
      | nil => exact h.2.2.elim
      | cons z L =>
        cases L with
        | cons _ _ => exact h.2.2.2.elim
        | nil =>
          obtain ⟨w1, w2, ⟨u, w3, w4, w5, w6⟩, _⟩ := h
          have g1 : x = vR 452 := w1.1
          have g2 : y = vR c := w2.1
          rw [g1, g2, w3, sg_is hn w4 w5 w6]
theorem keeps_ok {Ev : Env9} {c : Nat} (hc : c = 453 ∨ c = 455) (hch : KpChk c) : ∀ k, 3 ≤ k → CtrOK kd0 sh0 rt0 bd0 Inv0 Ev (runM k) 258 (ctKp c) := by
  intro k hk vs M h1 h2 _ hT hInv
  obtain ⟨k', rfl⟩ : ∃ k', k = k' + 1 := ⟨k - 1, by omega⟩
  obtain ⟨d, ct, e1, e2⟩ : MDOK bo9 258 mdK := mo_X11_keeps rfl _
  have hmC : MdC mdK d ct := e1
  obtain ⟨c1, c2, c4, c5⟩ := hch
  rw [hR9, e2]
  have el : (flatL vs).length = 2 := by rw [← lOK_len (spF_ok h1)]; rfl
  rw [el]
  have hp := pastM hT
  have hcl : c < 466 := by omega
  have hg := good_of h2
  have hrow : (c, 0) ∈ rows9 := by rcases hc with e | e <;> rw [e] <;> decide
  have hprow : ∀ m, m < 8 → (457, 627 * m) ∈ rows9 := fun m hm => by
    have : m = 0 ∨ m = 1 ∨ m = 2 ∨ m = 3 ∨ m = 4 ∨ m = 5 ∨ m = 6 ∨ m = 7 := by omega
    rcases this with e | e | e | e | e | e | e | e <;> rw [e] <;> decide
  have cpm : ∀ m, m < 8 → ∀ k, 1 ≤ k → CtrOK kd0 sh0 rt0 bd0 (InvK m) Ev (runM k) 178 (ctCp c 0 457 (627 * m)) := fun m hm => cp_any hcl (by omega) ku_457 (by omega) (c5 m hm) (fun M1 M2 _ g1 g2 => InvK_cp hrow (hprow m hm) g2 (by omega) (by omega) (Or.inr (Nat.le_refl _)) g1)
  have fin : ∀ (m : Nat) (M1 M2 : Mem) (p : Int), m < 8 → InvK m M2 → PrFa kd0 [] (fM 5 p p :: gdR 457 (627 * m)) M2 → p ≤ (m : Int) + 1 → Inv0 M2 := by
    intro m M1 M2 p hm g1 g2 g3
    have g4 := fact_at g2 (c := 452) (i := 5) (lo := p) (hi := p) List.mem_cons_self
    have g5 := good_of (prFa_r (l := [fM 5 p p]) g2)
    refine ⟨g1.1, g1.2.1, fun i hi h9 => ?_⟩
    by_cases q : i = m
    · rw [q]; exact g5
    · exact g1.2.2 i (by omega) hi
  by_cases hm8 : rdI M 452 5 = 8
  · -- full: all go one place down
    have hlo : lOK kd0 (loKp c none) (iniL 3 vs) := spI_ok (n := 3) (l := [(1, 452, 0), (1, (c : Int), 0)]) h1
    refine seg1 (C := 1000) (F := 100000) (f := 1000000000000) hu0 hang_T CS_nil hmC c2 (by omega) ⟨hlo, prFa_1 (c := 452) (i := 5) (by omega) (by omega) (by omega), fun q hq => by cases hq⟩ hT trivial (fun q q1 p' q2 f' q3 L' M' q4 q5 => ?_) (fun r _ _ _ q => by obtain ⟨p, hp, _⟩ := q; cases hp)
    obtain rfl := List.mem_singleton.mp q1
    obtain rfl := List.mem_singleton.mp q2
    have f0 : ∀ k : Nat, k < 466 → ∀ i : Nat, rdI M' k i = rdI M k i := fun k hk i => q5.2.2 k hk i rfl
    have eL : L' = [vR 452, vR c, vI 0] := lok_kp (n := 0) (by omega) q4.1
    subst eL
    refine kp_loop (c := c) (M := M) hmC (F := 1000) (fun f1 hf1 M1 g2 g3 => ?_) 4389 0 f' M' (by omega) (by omega) ⟨fun j hj => by omega, fun k' hk' i' _ => f0 k' hk' i'⟩ q5.1
    · have hL4 : lOK kd0 (loKp c (some (0, 4389, 4389))) [vR 452, vR c, vI 4389] := ⟨⟨rfl, by decide⟩, ⟨rfl, hcl⟩, ⟨4389, rfl, by decide, by rw [sg_eq (show 4389 ≤ 2147483647 by decide)]; exact Int.le_refl _, by rw [sg_eq (show 4389 ≤ 2147483647 by decide)]; exact Int.le_refl _⟩, trivial⟩
      obtain ⟨g6, g7⟩ := g2
      have o1 : ∀ k : Nat, k < 466 → k ≠ 457 → ∀ i : Nat, rdI M1 k i = rdI M k i := fun k hk h9 i => g7 k hk i (Or.inl h9)
      have hsh : ∀ i j, i < 7 → j < 627 → rdI M1 457 (627 * i + j) = rdI M 457 (627 * (i + 1) + j) := fun i j hi hj => by
        have := g6 (627 * i + j) (by omega)
        rw [show 0 + (627 * i + j) = 627 * i + j by omega, show 627 + (627 * i + j) = 627 * (i + 1) + j by omega] at this
        exact this
      have hK : InvK 7 M1 := by
        refine ⟨fun q hq => ?_, ⟨fun hs => ?_, XC_eq (fun k i hk _ => o1 k (by omega) (by omega) i) hInv.2.1.2.1, XT_eq (fun k i hk _ => o1 k (by omega) (by omega) i) hInv.2.1.2.2⟩, fun i hi _ => ?_⟩
        · by_cases e : q.1 = 457
          · have e5 : q = (457, 4389) ∨ ∃ i, i < 7 ∧ q = (457, 627 * i) := by
              revert e
              exact (by decide : ∀ q ∈ rows9, q.1 = 457 → q = (457, 4389) ∨ ∃ i, i < 7 ∧ q = (457, 627 * i)) q hq
            rcases e5 with e5 | ⟨i, hi, e5⟩
            · rw [e5]
              exact RowE_eq (k := 457) (o := 4389) (fun j hj => g7 457 (by omega) _ (Or.inr (Or.inr (by show 0 + 4389 ≤ 4389 + j; omega)))) (hInv.1 (457, 4389) (by decide))
            · rw [e5]
              exact RowE_eq (k := 457) (o := 627 * (i + 1)) (fun j hj => hsh i j hi hj) (hInv.1 (457, 627 * (i + 1)) (hprow (i + 1) (by omega)))
          · exact RowE_eq (fun j _ => o1 q.1 (rows9_lt q hq) e _) (hInv.1 q hq)
        · rw [o1 452 (by omega) (by omega)] at hs
          exact GoodR_eq (k := 454) (o := 0) (fun j _ => o1 454 (by omega) (by omega) _) (hInv.2.1.1 hs)
        · exact GoodR_eq (k := 457) (o := 627 * (i + 1)) (fun j hj => hsh i j hi hj) (hInv.2.2 (i + 1) (by omega) (by omega))
      have hgc : GoodR M1 c 0 := GoodR_eq (k := c) (o := 0) (fun j _ => o1 c hcl (by omega) _) hg
      refine seg1 (C := 1000) (F := 0) hu0 hang_K (csL (b := 1) (l := [(178, ctCp c 0 457 (627 * 7))]) hang_K (fun y ct hm => ?_) (by omega)) hmC c4 (by omega) ⟨hL4, prFa_app (l := [fM 5 8 8]) (prFa_1 (c := 452) (i := 5) (by omega) (by rw [o1 452 (by omega) (by omega)]; omega) (by rw [o1 452 (by omega) (by omega)]; omega)) (of_good hcl hgc), fun q hq => by cases hq⟩ g3 hK (fun q q1 => by cases q1) (fun r r1 r2 r3 q => ?_)
      · have hm : ct ∈ (Bool.rec [] [ctCp c 0 457 (627 * 7)] (Nat.beq 178 y) : List Ctr) := hm
        cases hb : Nat.beq 178 y with
        | false => rw [hb] at hm; cases hm
        | true => rw [hb] at hm; rw [List.mem_singleton.mp hm, ← Nat.eq_of_beq_eq_true hb]; exact cpm 7 (by omega)
      · obtain ⟨w, hw, hw1⟩ := q
        obtain rfl := List.mem_singleton.mp hw
        refine ⟨r1, r2, r3.1, fin 7 M1 _ 8 (by omega) r3.2.1 hw1.2.2.1 (by omega), fun j hj i hi => ?_, _, List.mem_singleton.mpr rfl, hw1.1, fun q => ?_, (fun q hq => by cases hq), (fun q hq => by cases hq)⟩
        · rw [r3.2.2 j hj i hi]
          by_cases e : j = 457
          · rw [e] at hi ⊢
            rw [kd_457] at hi
            refine g7 457 (by omega) i (Or.inr (Or.inr ?_))
            by_cases e9 : i < 5016
            · have h9 : inW wKp 35 ((i : Nat) : Int) = false := hi
              rw [wKp_in e9] at h9; cases h9
            · omega
          · exact o1 j hj e i
        · rw [hw1.1] at q; cases q
  · obtain ⟨m, hm, hme⟩ : ∃ m : Nat, m < 8 ∧ rdI M 452 5 = (m : Int) := ⟨(rdI M 452 5).toNat, by omega, by omega⟩
    refine seg1 (C := 1000) (F := 0) (f := 1000000000000) hu0 hang_K (csL (b := 1) (l := [(178, ctCp c 0 457 (627 * m))]) hang_K (fun y ct hm9 => ?_) (by omega)) hmC (allN_ok c1 m hm) (by omega) ⟨spI_ok (n := 3) (l := [(1, 452, 0), (1, (c : Int), 0)]) h1, prFa_app (l := [fM 5 m m]) (prFa_1 (c := 452) (i := 5) (by omega) (by omega) (by omega)) h2, fun q hq => by cases hq⟩ hT (Inv0_K hme hInv) (fun q q1 => by cases q1) (fun r r1 r2 r3 q => ?_)
    · have hm9 : ct ∈ (Bool.rec [] [ctCp c 0 457 (627 * m)] (Nat.beq 178 y) : List Ctr) := hm9
      cases hb : Nat.beq 178 y with
      | false => rw [hb] at hm9; cases hm9
      | true => rw [hb] at hm9; rw [List.mem_singleton.mp hm9, ← Nat.eq_of_beq_eq_true hb]; exact cpm m hm
    · obtain ⟨w, hw, hw1⟩ := q
      obtain rfl := List.mem_singleton.mp hw
      refine ⟨r1, r2, r3.1, fin m M _ (m + 1) hm r3.2.1 hw1.2.2.1 (by omega), fun j hj i hi => r3.2.2 j hj i hi, _, List.mem_singleton.mpr rfl, hw1.1, fun q => ?_, (fun q hq => by cases hq), (fun q hq => by cases hq)⟩
      rw [hw1.1] at q; cases q
