/-! the class: a text of commands read and done -/
theorem hgG_s {PR : Nat → Int → Bool} (h : hgG PR = true) : allL [3, 4, 0, 1] (fun j => PR (kd0 454) ((0 + j : Nat) : Int)) = true := by
  unfold hgG at h
  generalize allL [3, 4, 0, 1] (fun j => PR (kd0 454) ((0 + j : Nat) : Int)) = A at h ⊢
  generalize (allL [0, 1, 2, 3, 4, 5, 6, 7] fun i => allL [3, 4, 0, 1] fun j => PR (kd0 457) ((627 * i + j : Nat) : Int)) = B at h
  generalize PR (kd0 452) ((7 : Nat) : Int) = C at h
  revert h
  cases A <;> cases B <;> cases C <;> decide
/-- the first c commands are as they must be; nothing of how many there are -/
def InvC (c : Nat) (M : Mem) : Prop := (InvE M ∧ (rdI M 452 7 = 1 → GoodR M 454 0) ∧ XTo M ∧ ∀ i : Nat, i < 8 → (i : Int) < rdI M 452 5 → GoodR M 457 (627 * i)) ∧ ∀ i : Nat, i < c → i < 30 → Rel9 (rdI M 449 i) (rdI M 450 i) (rdI M 451 i)
noncomputable def PRC (c : Nat) (κ : Nat) (v : Int) : Bool := Bool.rec (Bool.rec (PR0 κ v) (Bool.rec (PR0 κ v) false (ieq v 4)) (Nat.beq κ 12)) (Bool.rec false (ile 0 v) (ile (v + 1) (c : Int))) (memN κ [28, 29, 30])
noncomputable def hgC6 (c : Nat) : Bool := allN c (fun i => allL [449, 450, 451] (fun k => PRC c (kd0 k) (i : Int)))
noncomputable def hgC5 (c : Nat) : Bool := Bool.rec false (hgC6 c) (PRC c (kd0 452) ((5 : Nat) : Int))
noncomputable def hgC4 (c : Nat) : Bool := Bool.rec false (hgC5 c) (allN 90 (fun i => PRC c (kd0 463) (i : Int)))
noncomputable def hgC3 (c : Nat) : Bool := Bool.rec false (hgC4 c) (PRC c (kd0 452) ((25 : Nat) : Int))
noncomputable def hgC2 (c : Nat) : Bool := Bool.rec false (hgC3 c) (PRC c (kd0 452) ((7 : Nat) : Int))
noncomputable def hgC1 (c : Nat) : Bool := Bool.rec false (hgC2 c) (hgG (PRC c))
noncomputable def hgC (c : Nat) : Bool := Bool.rec false (hgC1 c) (hgE (PRC c))
theorem hgC_all : allN 31 hgC = true := by decide +kernel
theorem hang_C {c : Nat} (hc : c < 31) : Hang kd0 (PRC c) (InvC c) := by
  intro M M' h hf
  have g := allN_ok hgC_all c hc
  obtain ⟨g1, g⟩ := band (a := hgE (PRC c)) (b := hgC1 c) g
  obtain ⟨g2, g⟩ := band (a := hgG (PRC c)) (b := hgC2 c) g
  obtain ⟨g3, g⟩ := band (a := PRC c (kd0 452) ((7 : Nat) : Int)) (b := hgC3 c) g
  obtain ⟨g4, g⟩ := band (a := PRC c (kd0 452) ((25 : Nat) : Int)) (b := hgC4 c) g
  obtain ⟨g5, g⟩ := band (a := allN 90 (fun i => PRC c (kd0 463) (i : Int))) (b := hgC5 c) g
  obtain ⟨g6, g7⟩ := band (a := PRC c (kd0 452) ((5 : Nat) : Int)) (b := hgC6 c) g
  obtain ⟨⟨h1, h2, h3, h4⟩, h5⟩ := h
  have x2 : allL [3, 4, 0, 1] (fun j => PRC c (kd0 454) ((0 + j : Nat) : Int)) = true := hgG_s g2
  refine ⟨⟨hang_E g1 hf h1, fun hs => ?_, XT_eq (fun k i hk hi => ?_) h3, fun i hi h9 => ?_⟩, fun i hi hi30 => ?_⟩
  · rw [hf 452 (by omega) 7 g3] at hs
    exact good_fr (by omega) x2 hf (h2 hs)
  · rcases hk with ⟨e1, e2⟩ | e
    · rw [e1, e2]; exact hf 452 (by omega) 25 g4
    · rw [e]; exact hf 463 (by omega) i (allN_ok g5 i hi)
  · rw [hf 452 (by omega) 5 g6] at h9
    exact hang_P g2 hf hi (h4 i hi h9)
  · have y := allN_ok g7 i hi
    rw [hf 449 (by omega) i (allL_ok y 449 (by decide)), hf 450 (by omega) i (allL_ok y 450 (by decide)), hf 451 (by omega) i (allL_ok y 451 (by decide))]
    exact h5 i hi hi30
theorem InvC_of {c : Nat} {M : Mem} (hc : rdI M 448 4 = (c : Int)) (h : Inv0 M) : InvC c M := ⟨⟨h.1, h.2.1.1, h.2.1.2.2, h.2.2⟩, fun i h1 h2 => h.2.1.2.1 i h2 (by omega)⟩
theorem InvC_to {c : Nat} {M : Mem} (hc : rdI M 448 4 ≤ (c : Int)) (h : InvC c M) : Inv0 M := ⟨h.1.1, ⟨h.1.2.1, fun i h1 h2 => h.2 i (by omega) h1, h.1.2.2.1⟩, h.1.2.2.2⟩
noncomputable def f8 (k i : Nat) (lo hi : Int) : Fct := ((.inl k, (0, 0, ((i : Nat) : Int))), lo, hi)
noncomputable def relF (c : Nat) (q : Int × (Int × Int) × (Int × Int)) : List Fct := [f8 449 c q.1 q.1, f8 450 c q.2.1.1 q.2.1.2, f8 451 c q.2.2.1 q.2.2.2]
theorem relF_ok {c : Nat} {q : Int × (Int × Int) × (Int × Int)} (hq : q ∈ relL) {M : Mem} (h : PrFa kd0 [] (relF c q) M) : Rel9 (rdI M 449 c) (rdI M 450 c) (rdI M 451 c) := by
  have h1 := fact_at h (c := 449) (i := c) (lo := q.1) (hi := q.1) List.mem_cons_self
  have h2 := fact_at h (c := 450) (i := c) (lo := q.2.1.1) (hi := q.2.1.2) (List.mem_cons_of_mem _ List.mem_cons_self)
  have h3 := fact_at h (c := 451) (i := c) (lo := q.2.2.1) (hi := q.2.2.2) (List.mem_cons_of_mem _ (List.mem_cons_of_mem _ List.mem_cons_self))
  exact ⟨q, hq, Int.le_antisymm h1.2 h1.1, h2, h3⟩
theorem relF_of {c : Nat} {M : Mem} (h : Rel9 (rdI M 449 c) (rdI M 450 c) (rdI M 451 c)) : ∃ q ∈ relL, PrFa kd0 [] (relF c q) M := by
  obtain ⟨q, h1, h2, h3, h4⟩ := h
  refine ⟨q, h1, prFa_app (l := [f8 449 c q.1 q.1]) (prFa_1 (c := 449) (i := c) (by omega) (Int.le_of_eq h2.symm) (Int.le_of_eq h2)) (prFa_app (l := [f8 450 c q.2.1.1 q.2.1.2]) (prFa_1 (c := 450) (i := c) (by omega) h3.1 h3.2) (prFa_1 (c := 451) (i := c) (by omega) h4.1 h4.2))⟩
/-- the parser of commands -/
noncomputable def mdP : MDT := (4, nb_X1_parse, [])
noncomputable def wP : Wrg := [(12, 4, 4), (28, 0, 29), (29, 0, 29), (30, 0, 29), (10, 1, 7)]
noncomputable def ctP : Ctr := ([(1, 448, 0), (1, 7, 0)], [], [], wP, [((0, 0), (0, 0, 1), [], [])])
noncomputable def stP (c : Nat) (f : List Fct) : SPt := ([some (1, 448, 0), some (1, 7, 0), some (0, (c : Int), (c : Int)), none], f8 448 4 c c :: f, [])
noncomputable def pP (c : Nat) : List Pst := [((0, 0), (0, 0, 1), [f8 448 4 c c], [])]
/-- the same, and how many there are stays -/
noncomputable def PRQ (c : Nat) (κ : Nat) (v : Int) : Bool := Bool.rec (PR0 κ v) (Bool.rec false (ile 0 v) (ile (v + 1) (c : Int))) (memN κ [28, 29, 30])
theorem prQ {c κ : Nat} {v : Int} (h : PRC c κ v = true) : PRQ c κ v = true := by
  unfold PRC at h
  unfold PRQ
  cases h1 : memN κ [28, 29, 30] with
  | true => rw [h1] at h; exact h
  | false =>
    rw [h1] at h
    have h : (Bool.rec (PR0 κ v) (Bool.rec (PR0 κ v) false (ieq v 4)) (Nat.beq κ 12) : Bool) = true := h
    show PR0 κ v = true
    cases h2 : Nat.beq κ 12 with
    | false => rw [h2] at h; exact h
    | true =>
      rw [h2] at h
      have h : (Bool.rec (PR0 κ v) false (ieq v 4) : Bool) = true := h
      cases h3 : ieq v 4 with
      | false => rw [h3] at h; exact h
      | true => rw [h3] at h; cases h
def InvQ (c : Nat) (M : Mem) : Prop := InvC c M ∧ rdI M 448 4 = (c : Int)
theorem prQ4 : allN 31 (fun c => PRQ c (kd0 448) ((4 : Nat) : Int)) = true := by decide +kernel
theorem hang_Q {c : Nat} (hc : c < 31) : Hang kd0 (PRQ c) (InvQ c) := fun M M' h hf => ⟨hang_C hc M M' h.1 (fun k hk i hi => hf k hk i (prQ hi)), by rw [hf 448 (by omega) 4 (allN_ok prQ4 c hc)]; exact h.2⟩
theorem kd_448 : kd0 448 = 12 := kd_n 448 12 (by decide +kernel)
theorem lift_Q {Ev : Env9} {call : Call} {y c : Nat} {ct : Ctr} (h : CtrOK kd0 sh0 rt0 bd0 Inv0 Ev call y ct) (hw : inW ct.2.2.2.1 12 ((4 : Nat) : Int) = false) : CtrOK kd0 sh0 rt0 bd0 (InvQ c) Ev call y ct :=
  ctr_lift h (fun M g => InvC_to (Int.le_of_eq g.2) g.1) (fun M M' _ g g2 _ g4 _ => by
    have e : rdI M' 448 4 = (c : Int) := by rw [g4 448 (by omega) 4 (by rw [kd_448]; exact hw)]; exact g.2
    exact ⟨InvC_of e g2, e⟩)
theorem lift_QL0 {l : List (Nat × Ctr)} (hw : allL l (fun p => snot (inW p.2.2.2.2.1 12 ((4 : Nat) : Int))) = true) : ∀ y, ∀ ct ∈ ctL l y, inW ct.2.2.2.1 12 ((4 : Nat) : Int) = false := by
  intro y ct
  induction l with
  | nil => intro hm; cases hm
  | cons a l ih =>
    obtain ⟨w1, w2⟩ := band (a := snot (inW a.2.2.2.2.1 12 ((4 : Nat) : Int))) (b := allL l (fun p => snot (inW p.2.2.2.2.1 12 ((4 : Nat) : Int)))) hw
    intro hm
    have hm : ct ∈ (Bool.rec (ctL l y) (a.2 :: ctL l y) (Nat.beq a.1 y) : List Ctr) := hm
    cases hb : Nat.beq a.1 y with
    | false => rw [hb] at hm; exact ih w2 hm
    | true =>
      rw [hb] at hm
      rcases List.mem_cons.mp hm with e | e
      · rw [e]; exact snot_t w1
      · exact ih w2 e
theorem lift_QL {Ev : Env9} {b c : Nat} {l : List (Nat × Ctr)} (hl : ∀ y, ∀ ct ∈ ctL l y, ∀ k, b ≤ k → CtrOK kd0 sh0 rt0 bd0 Inv0 Ev (runM k) y ct) (hw : allL l (fun p => snot (inW p.2.2.2.2.1 12 ((4 : Nat) : Int))) = true) : ∀ y, ∀ ct ∈ ctL l y, ∀ k, b ≤ k → CtrOK kd0 sh0 rt0 bd0 (InvQ c) Ev (runM k) y ct := by
  exact fun y ct hm k hk => lift_Q (hl y ct hm k hk) (lift_QL0 hw y ct hm)
noncomputable def st11 (c : Nat) (q : Int × (Int × Int) × (Int × Int)) : SPt := ([some (1, 448, 0), some (1, 7, 0), some (0, (c : Int), (c : Int)), none], f8 448 4 c c :: relF c q, [])
noncomputable def chP1 (c : Nat) : Bool := xseg kd0 sh0 rt0 bd0 un0 (inW wP) (PRQ c) MT0 (ctL tl_parse) 8 mdP (yif (Nat.blt c 30) [(11, relL.map (st11 c))]) (pP c) 1000000 1 (stP c [])
noncomputable def chP11 (c : Nat) : Bool := allL relL (fun q => xseg kd0 sh0 rt0 bd0 un0 (inW wP) (PRC (c + 1)) MT0 CT9 0 mdP [(1, [stP (c + 1) []])] [] 1000000 11 (st11 c q))
theorem chP : allN 31 chP1 = true := by decide +kernel
theorem chPb : allN 30 chP11 = true := by decide +kernel
theorem chP0 : xseg kd0 sh0 rt0 bd0 un0 (inW wP) (PRC 0) MT0 CT9 4 mdP [(1, [stP 0 []])] [] 1000000 0 (spI 4 ctP.1, [], []) = true := by decide +kernel
theorem wl_parse : allL tl_parse (fun p => snot (inW p.2.2.2.2.1 12 ((4 : Nat) : Int))) = true := by decide +kernel
theorem CS_nil0 {Wp PR : Nat → Int → Bool} {Inv : Mem → Prop} {M0 : Mem} {Ev : Env9} {call : Call} : CS kd0 sh0 rt0 bd0 Wp Inv M0 Ev call (xM kd0 sh0 rt0 bd0 un0 Wp PR MT0 CT9 0) := fun _ _ _ _ _ h => nomatch (show (none : Option (List Out)) = some _ from h)
theorem rel_s {c : Nat} {M : Mem} (h : ∀ i : Nat, i < c → i < 30 → Rel9 (rdI M 449 i) (rdI M 450 i) (rdI M 451 i)) (hc : Rel9 (rdI M 449 c) (rdI M 450 c) (rdI M 451 c)) : ∀ i : Nat, i < c + 1 → i < 30 → Rel9 (rdI M 449 i) (rdI M 450 i) (rdI M 451 i) := by
  intro i h1 h2
  by_cases e : i = c
  · rw [e]; exact hc
  · exact h i (by omega) h2
theorem parse_ok {Ev : Env9} {b : Nat} (hl : ∀ y, ∀ ct ∈ ctL tl_parse y, ∀ k, b ≤ k → CtrOK kd0 sh0 rt0 bd0 Inv0 Ev (runM k) y ct) : CK Ev (b + 20) (7, ctP) := by
  intro k hk
  obtain ⟨k', rfl⟩ : ∃ k', k = k' + 1 := ⟨k - 1, by omega⟩
  refine ctr_st hR9 (md := mdP) (show MDOK bo9 7 mdP from mo_X1_parse rfl _) (Nat.le_of_ble_eq_true rfl) (fun d ct hmC M0 hI0 _ f hf L M hQ hM => ?_)
  have hk2 : b + 8 ≤ k' := by omega
  have hk8 : 4 ≤ k' := by omega
  have key : ∀ m c, c + m = 30 → ∀ f, fu 2000000 2000000 m ≤ f → ∀ (L : List AV) (M : Mem), SpOK kd0 (stP c []) L M → TI kd0 sh0 rt0 bd0 M → InvC c M → Fr kd0 (inW wP) M0 M → OKo (runF (runM k') d ct f 1 Ev 466 0 L [] M) (EnP kd0 sh0 rt0 bd0 Inv0 Ev ctP M0) := by
    intro m
    induction m with
    | zero =>
      intro c hc f hf L M hQ hT hI hFr
      have hc31 : c < 31 := by omega
      rw [fu_0] at hf
      have e30 : c = 30 := by omega
      subst e30
      have hcnt := fact_at hQ.2.1 (c := 448) (i := 4) (lo := 30) (hi := 30) List.mem_cons_self
      have h44 : rdI M 448 4 = ((30 : Nat) : Int) := Int.le_antisymm hcnt.2 hcnt.1
      refine seg1 (C := 1000000) (F := 0) hu0 (hang_Q (c := 30) hc31) (csL (b := b) (l := tl_parse) (hang_Q hc31) (lift_QL hl wl_parse) hk2) hmC (allN_ok chP 30 hc31) (Nat.le_trans (Nat.le_of_ble_eq_true rfl) hf) hQ hT ⟨hI, h44⟩ (fun q q1 => by cases q1) (fun r r1 r2 r3 q => ?_)
      obtain ⟨w, hw, hw1⟩ := q
      obtain rfl := List.mem_singleton.mp hw
      exact ⟨r1, r2, r3.1, InvC_to (Int.le_of_eq r3.2.1.2) r3.2.1.1, fr_tr hFr r3.2.2 (fun _ _ h => h), _, List.mem_singleton.mpr rfl, hw1.1, hw1.2.1, (fun q hq => by cases hq), hw1.2.2.2⟩
    | succ m ih =>
      intro c hc f hf L M hQ hT hI hFr
      have hc31 : c < 31 := by omega
      have hc30 : c < 30 := by omega
      have hc32 : c + 1 < 31 := by omega
      have hc33 : c + 1 + m = 30 := by omega
      rw [fu_s] at hf
      generalize fu 2000000 2000000 m = Z at ih hf
      have hcnt := fact_at hQ.2.1 (c := 448) (i := 4) (lo := (c : Int)) (hi := (c : Int)) List.mem_cons_self
      have h44 : rdI M 448 4 = (c : Int) := Int.le_antisymm hcnt.2 hcnt.1
      refine seg1 (C := 1000000) (F := Z + 1000000) hu0 (hang_Q (c := c) hc31) (csL (b := b) (l := tl_parse) (hang_Q hc31) (lift_QL hl wl_parse) hk2) hmC (allN_ok chP c hc31) (fue hf rfl) hQ hT ⟨hI, h44⟩ (fun q q1 p' q2 f' q3 L' M' q4 q5 => ?_) (fun r r1 r2 r3 q => ?_)
      · obtain ⟨_, q1⟩ := yif_mem q1
        obtain rfl := List.mem_singleton.mp q1
        obtain ⟨rl, hrl, hp'⟩ := List.mem_map.mp q2
        subst hp'
        have hFr' := fr_tr hFr q5.2.2 (fun _ _ h => h)
        have hrel := relF_ok hrl (fun a ha => q4.2.1 a (List.mem_cons_of_mem _ ha))
        have hI' : InvC (c + 1) M' := ⟨q5.2.1.1.1, fun i h1 h2 => rel_s (fun i a b => q5.2.1.1.2 i a b) hrel i h1 h2⟩
        refine seg1 (posts := []) (C := 1000000) (F := Z) hu0 (hang_C (c := c + 1) hc32) CS_nil0 hmC (allL_ok (allN_ok chPb c hc30) rl hrl) (fue0 q3) q4 q5.1 hI' (fun w w1 p2 w2 f2 w3 L2 M2 w4 w5 => ?_) (fun r _ _ _ q => by obtain ⟨p, hp, _⟩ := q; cases hp)
        obtain rfl := List.mem_singleton.mp w1
        obtain rfl := List.mem_singleton.mp w2
        exact ih (c + 1) hc33 f2 w3 L2 M2 w4 w5.1 w5.2.1 (fr_tr hFr' w5.2.2 (fun _ _ h => h))
      · obtain ⟨w, hw, hw1⟩ := q
        obtain rfl := List.mem_singleton.mp hw
        exact ⟨r1, r2, r3.1, InvC_to (Int.le_of_eq r3.2.1.2) r3.2.1.1, fr_tr hFr r3.2.2 (fun _ _ h => h), _, List.mem_singleton.mpr rfl, hw1.1, hw1.2.1, (fun q hq => by cases hq), hw1.2.2.2⟩
  have hI0' : InvC 0 M := ⟨⟨hM.2.1.1, hM.2.1.2.1.1, hM.2.1.2.1.2.2, hM.2.1.2.2⟩, fun i h1 _ => by omega⟩
  refine seg1 (posts := []) (C := 1000000) (F := 100000000) hu0 (hang_C (c := 0) (by decide)) (cs9 (hang_C (by decide)) hR9 hMT9 hk8) hmC chP0 (Nat.le_trans (Nat.le_of_ble_eq_true rfl) hf) hQ hM.1 hI0' (fun q q1 p' q2 f' q3 L' M' q4 q5 => ?_) (fun r _ _ _ q => by obtain ⟨p, hp, _⟩ := q; cases hp)
  obtain rfl := List.mem_singleton.mp q1
  obtain rfl := List.mem_singleton.mp q2
  have hfu : fu 2000000 2000000 30 ≤ 100000000 := Nat.le_of_ble_eq_true (by decide +kernel)
  exact key 30 0 (by omega) f' (Nat.le_trans hfu q3) L' M' q4 q5.1 q5.2.1 (fr_tr hM.2.2 q5.2.2 (fun _ _ h => h))
