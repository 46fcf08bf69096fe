/-! the rows before: keeps -/
def good9 : List (Nat × Int × Int) := [(3, 1, 30), (4, 1, 12), (0, 1, 12), (1, 1, 8)]
noncomputable def gd4 (c o : Nat) : List Fct := good9.map (fun q => ((.inl c, (0, 0, ((o + q.1 : Nat) : Int))), q.2))
theorem good_of {M : Mem} {c o : Nat} (h : PrFa kd0 [] (gd4 c o) M) : GoodR M c o :=
  ⟨fact_at h (c := c) (i := o + 3) (lo := 1) (hi := 30) List.mem_cons_self, fact_at h (c := c) (i := o + 4) (lo := 1) (hi := 12) (List.mem_cons_of_mem _ List.mem_cons_self), fact_at h (c := c) (i := o + 0) (lo := 1) (hi := 12) (List.mem_cons_of_mem _ (List.mem_cons_of_mem _ List.mem_cons_self)), fact_at h (c := c) (i := o + 1) (lo := 1) (hi := 8) (List.mem_cons_of_mem _ (List.mem_cons_of_mem _ (List.mem_cons_of_mem _ List.mem_cons_self)))⟩
theorem of_good {M : Mem} {c o : Nat} (hc : c < 466) (h : GoodR M c o) : PrFa kd0 [] (gd4 c o) M := by
  intro a ha
  obtain ⟨h1, h2, h3, h4⟩ := h
  rcases List.mem_cons.mp ha with e | ha
  · rw [e]; exact fact_of (c := c) (i := o + 3) hc h1
  rcases List.mem_cons.mp ha with e | ha
  · rw [e]; exact fact_of (c := c) (i := o + 4) hc h2
  rcases List.mem_cons.mp ha with e | ha
  · rw [e]; exact fact_of (c := c) (i := o + 0) hc h3
  · rw [List.mem_singleton.mp ha]; exact fact_of (c := c) (i := o + 1) hc h4
theorem prFa_app {l m : List Fct} {M : Mem} (h1 : PrFa kd0 [] l M) (h2 : PrFa kd0 [] m M) : PrFa kd0 [] (l ++ m) M := fun a ha => (List.mem_append.mp ha).elim (h1 a) (h2 a)
theorem prFa_l {l m : List Fct} {M : Mem} (h : PrFa kd0 [] (l ++ m) M) : PrFa kd0 [] l M := fun a ha => h a (List.mem_append_left _ ha)
theorem prFa_r {l m : List Fct} {M : Mem} (h : PrFa kd0 [] (l ++ m) M) : PrFa kd0 [] m M := fun a ha => h a (List.mem_append_right _ ha)
theorem prFa_1 {c i : Nat} {lo hi : Int} {M : Mem} (hc : c < 466) (h1 : lo ≤ rdI M c i) (h2 : rdI M c i ≤ hi) : PrFa kd0 [] [((.inl c, (0, 0, (i : Int))), lo, hi)] M := fun a ha => by rw [List.mem_singleton.mp ha]; exact fact_of hc ⟨h1, h2⟩
theorem fact_1 {c i : Nat} {lo hi : Int} {M : Mem} (h : PrFa kd0 [] [((.inl c, (0, 0, (i : Int))), lo, hi)] M) : lo ≤ rdI M c i ∧ rdI M c i ≤ hi := fact_at h List.mem_cons_self
noncomputable def fM (i : Nat) (lo hi : Int) : Fct := ((.inl 452, (0, 0, (i : Int))), lo, hi)
noncomputable def wRow (κ o : Nat) : Wrg := [(κ, (o : Int), ((o + 399 : Nat) : Int)), (κ, ((o + 400 : Nat) : Int), ((o + 626 : Nat) : Int))]
theorem wRow_in {κ o i : Nat} (hi : i < 627) : inW (wRow κ o) κ ((o + i : Nat) : Int) = true := by
  by_cases h : i < 400
  · exact inW_of (a := (κ, (o : Int), ((o + 399 : Nat) : Int))) rfl (by show (o : Int) ≤ _; omega) (by show ((o + i : Nat) : Int) ≤ ((o + 399 : Nat) : Int); omega) List.mem_cons_self
  · exact inW_of (a := (κ, ((o + 400 : Nat) : Int), ((o + 626 : Nat) : Int))) rfl (by show ((o + 400 : Nat) : Int) ≤ _; omega) (by show ((o + i : Nat) : Int) ≤ ((o + 626 : Nat) : Int); omega) (List.mem_cons_of_mem _ List.mem_cons_self)
/-- a row copied -/
noncomputable def ctCp (a a0 b b0 : Nat) : Ctr := ([(1, (a : Int), 0), (0, (a0 : Int), (a0 : Int)), (1, (b : Int), 0), (0, (b0 : Int), (b0 : Int))], gd4 a a0, [], wRow (kd0 b) b0, [((1, 0), (1, 0, 0), gd4 b b0, [])])
theorem cp_any {Ev : Env9} {Inv : Mem → Prop} {a a0 b b0 : Nat} (ha : a < 466) (hb : b < 466) (hk : allN 466 (fun j => Bool.rec true (Nat.beq j b) (Nat.beq (kd0 j) (kd0 b))) = true) (hab : a ≠ b ∨ b0 + 627 ≤ a0 ∨ a0 + 627 ≤ b0) (h : cpChk a a0 b b0) (hInv : ∀ M M', TI kd0 sh0 rt0 bd0 M → Inv M → CpR a a0 b b0 627 M M' → Inv M') : ∀ k, 1 ≤ k → CtrOK kd0 sh0 rt0 bd0 Inv Ev (runM k) 178 (ctCp a a0 b b0) :=
  cp_ctr hR9 mdCp_ok ha hb (ku_of hk) hab h (fun i hi => wRow_in hi) hInv good9 (by decide)
noncomputable def mdK : MDT := (3, nb_X11_keeps, [])
noncomputable def wKp : Wrg := ct_224.2.2.2.1
noncomputable def ctKp (c : Nat) : Ctr := ([(1, 452, 0), (1, (c : Int), 0)], gd4 c 0, [], wKp, [((1, 0), (1, 0, 0), [], [])])
noncomputable def loKp (c : Nat) (p : Option APt) : List (Option APt) := [some (1, 452, 0), some (1, (c : Int), 0), p]
noncomputable def ctKm (c m : Nat) : Nat → List Ctr := ctL [(178, ctCp c 0 457 (627 * m))]
noncomputable def chK1 (c m : Nat) : Bool := xseg kd0 sh0 rt0 bd0 un0 (inW wKp) PRK MT0 (ctKm c m) 1 mdK [] [((1, 0), (1, 0, 0), fM 5 (m + 1) (m + 1) :: gd4 457 (627 * m), [])] 1000 0 (loKp c none, fM 5 m m :: gd4 c 0, [])
noncomputable def chK2 (c : Nat) : Bool := xseg kd0 sh0 rt0 bd0 un0 pr9 pr9 MT9 CT9 0 mdK [(2, [stK3 c 0])] [] 1000 0 (loKp c none, [fM 5 8 8], [])
noncomputable def stK3 (c n : Nat) : SPt := (loKp c (some (0, (n : Int), (n : Int))), cpFt 4389 457 627 n, [])
noncomputable def chK3 (c : Nat) : Bool := allN 4389 (fun n => xsegR kd0 sh0 rt0 bd0 un0 (cpW 457 0 n) pr9 MT9 CT9 0 mdK [(2, [(stK3 c (n + 1), cpRl 457 627 457 0 n)])] [] 10 2 (stK3 c n))
noncomputable def chK4 (c : Nat) : Bool := xseg kd0 sh0 rt0 bd0 un0 (inW wKp) PRK MT0 (ctKm c 7) 1 mdK [] [((1, 0), (1, 0, 0), fM 5 8 8 :: gd4 457 4389, [])] 1000 2 (loKp c (some (0, 4389, 4389)), fM 5 8 8 :: gd4 c 0, [])
def KpChk (c : Nat) : Prop := allN 8 (chK1 c) = true ∧ chK2 c = true ∧ chK3 c = true ∧ chK4 c = true ∧ (∀ m, m < 8 → cpChk c 0 457 (627 * m))
theorem tyPast : ytyp kd0 sh0 452 ((5 : Nat) : Int) = true := by decide +kernel
theorem bdPast : bd0 (kd0 452) ((5 : Nat) : Int) = (0, 8) := by decide +kernel
theorem pastM {M : Mem} (hT : TI kd0 sh0 rt0 bd0 M) : 0 ≤ rdI M 452 5 ∧ rdI M 452 5 ≤ 8 := by
  obtain ⟨_, j, h1, h2⟩ := ytyp_ok hT tyPast
  have e : j = 5 := by omega
  subst e
  rw [bdPast] at h2
  exact h2
theorem wKp_in {i : Nat} (h : i < 5016) : inW wKp 35 ((i : Nat) : Int) = true := allN_ok (n := 5016) (f := fun i => inW wKp 35 ((i : Nat) : Int)) (by decide +kernel) i h
theorem wKp_5 : inW wKp 13 ((5 : Nat) : Int) = true := by decide +kernel
theorem kd_457 : kd0 457 = 35 := by decide +kernel
theorem keeps_ok {Ev : Env9} {c : Nat} (hc : c = 453 ∨ c = 455) (hch : KpChk c) : ∀ k, 3 ≤ k → CtrOK kd0 sh0 rt0 bd0 Inv0 Ev (runM k) 258 (ctKp c) := by
  intro k hk vs M h1 h2 _ hT hInv
  obtain ⟨k', rfl⟩ : ∃ k', k = k' + 1 := ⟨k - 1, by omega⟩
  obtain ⟨d, ct, e1, e2⟩ : MDOK bo9 258 mdK := mo_X11_keeps rfl _
  have hmC : MdC mdK d ct := e1
  obtain ⟨c1, c2, c3, c4, c5⟩ := hch
  rw [hR9, e2]
  have el : (flatL vs).length = 2 := by rw [← lOK_len (spF_ok h1)]; rfl
  rw [el]
  have hp := pastM hT
  have hcl : c < 466 := by omega
  have hg := good_of h2
  have hrow : (c, 0) ∈ rows9 := by rcases hc with e | e <;> rw [e] <;> decide
  have hprow : ∀ m, m < 8 → (457, 627 * m) ∈ rows9 := fun m hm => by
    have : m = 0 ∨ m = 1 ∨ m = 2 ∨ m = 3 ∨ m = 4 ∨ m = 5 ∨ m = 6 ∨ m = 7 := by omega
    rcases this with e | e | e | e | e | e | e | e <;> rw [e] <;> decide
  have cpm : ∀ m, m < 8 → ∀ k, 1 ≤ k → CtrOK kd0 sh0 rt0 bd0 (InvK m) Ev (runM k) 178 (ctCp c 0 457 (627 * m)) := fun m hm => cp_any hcl (by omega) ku_457 (by omega) (c5 m hm) (fun M1 M2 _ g1 g2 => InvK_cp hrow (hprow m hm) g2 (by omega) (by omega) (Or.inr (Nat.le_refl _)) g1)
  have fin : ∀ (m : Nat) (M1 M2 : Mem) (p : Int), m < 8 → InvK m M2 → PrFa kd0 [] (fM 5 p p :: gd4 457 (627 * m)) M2 → p ≤ (m : Int) + 1 → Inv0 M2 := by
    intro m M1 M2 p hm g1 g2 g3
    have g4 := fact_at g2 (c := 452) (i := 5) (lo := p) (hi := p) List.mem_cons_self
    have g5 := good_of (prFa_r (l := [fM 5 p p]) g2)
    refine ⟨g1.1, g1.2.1, fun i hi h9 => ?_⟩
    by_cases q : i = m
    · rw [q]; exact g5
    · exact g1.2.2 i (by omega) hi
  by_cases hm8 : rdI M 452 5 = 8
  · -- full: all go one place down
    have hlo : lOK kd0 (loKp c none) (iniL 3 vs) := spI_ok (n := 3) (l := [(1, 452, 0), (1, (c : Int), 0)]) h1
    refine seg1 (C := 1000) (F := 4389 * 10 + 1000) (f := 1000000000000) hu0 hang_T CS_nil hmC c2 (by omega) ⟨hlo, prFa_1 (c := 452) (i := 5) (by omega) (by omega) (by omega), fun q hq => by cases hq⟩ hT trivial (fun q q1 p' q2 f' q3 L' M' q4 q5 => ?_) (fun r _ _ _ q => by obtain ⟨p, hp, _⟩ := q; cases hp)
    obtain rfl := List.mem_singleton.mp q1
    obtain rfl := List.mem_singleton.mp q2
    have f0 : ∀ k : Nat, k < 466 → ∀ i : Nat, rdI M' k i = rdI M k i := fun k hk i => q5.2.2 k hk i rfl
    refine fam_ok (N := 4389) (C := 10) (F := 1000) (S := stK3 c) (RL := cpRl 457 627 457 0) (W := cpW 457 0) (Hist := fun n M1 => CpR 457 627 457 0 n M M1) hu0 hmC (fun n hn => allN_ok c3 n hn) (fun n hn M1 M2 g1 g2 g3 _ g5 => ?_) (fun f1 hf1 L1 M1 g1 g2 g3 => ?_) 4389 0 f' (by omega) (by omega) L' M' q4 ⟨fun j hj => by omega, fun k' hk' i' _ => f0 k' hk' i'⟩ q5.1
    · have hs : rdI M2 457 (0 + n) = rdI M1 457 (627 + n) := by
        have := g5 _ (List.mem_singleton.mpr rfl)
        rw [this]; exact Int.add_zero _
      have fr : ∀ k : Nat, k < 466 → ∀ i : Nat, (k ≠ 457 ∨ i ≠ 0 + n) → rdI M2 k i = rdI M1 k i := by
        intro k' hk' i' hi'
        refine g3 k' hk' i' ?_
        show (Bool.rec false (ieq (i' : Int) ((0 + n : Nat) : Int)) (Nat.beq (kd0 k') (kd0 457)) : Bool) = false
        cases e3 : Nat.beq (kd0 k') (kd0 457) with
        | false => rfl
        | true =>
          have e4 := ku_of ku_457 k' hk' (Nat.eq_of_beq_eq_true e3)
          cases e5 : ieq (i' : Int) ((0 + n : Nat) : Int) with
          | false => rfl
          | true =>
            have := ieq_iff.mp e5
            rcases hi' with h9 | h9
            · exact absurd e4 h9
            · omega
      obtain ⟨g6, g7⟩ := g1
      refine ⟨fun j hj => ?_, fun k' hk' i' hi' => ?_⟩
      · by_cases ej : j = n
        · subst ej
          rw [hs, g7 457 (by omega) (627 + j) (by omega)]
        · rw [fr 457 (by omega) (0 + j) (by omega)]
          exact g6 j (by omega)
      · rw [fr k' hk' i' (by omega)]
        exact g7 k' hk' i' (by omega)
    · obtain ⟨g6, g7⟩ := g2
      have o1 : ∀ k : Nat, k < 466 → k ≠ 457 → ∀ i : Nat, rdI M1 k i = rdI M k i := fun k hk h9 i => g7 k hk i (Or.inl h9)
      have hsh : ∀ i j, i < 7 → j < 627 → rdI M1 457 (627 * i + j) = rdI M 457 (627 * (i + 1) + j) := fun i j hi hj => by
        have := g6 (627 * i + j) (by omega)
        rw [show 0 + (627 * i + j) = 627 * i + j by omega, show 627 + (627 * i + j) = 627 * (i + 1) + j by omega] at this
        exact this
      have hK : InvK 7 M1 := by
        refine ⟨fun q hq => ?_, ⟨fun hs => ?_, XCo_eq (fun k i hk _ => o1 k (by omega) (by omega) i) hInv.2.1.2.1, XTo_eq (fun k i hk _ => o1 k (by omega) (by omega) i) hInv.2.1.2.2⟩, fun i hi _ => ?_⟩
        · by_cases e : q.1 = 457
          · have e5 : q = (457, 4389) ∨ ∃ i, i < 7 ∧ q = (457, 627 * i) := by
              revert e
              exact (by decide : ∀ q ∈ rows9, q.1 = 457 → q = (457, 4389) ∨ ∃ i, i < 7 ∧ q = (457, 627 * i)) q hq
            rcases e5 with e5 | ⟨i, hi, e5⟩
            · rw [e5]
              exact RowE_eq (k := 457) (o := 4389) (fun j hj => g7 457 (by omega) _ (Or.inr (Or.inr (by show 0 + 4389 ≤ 4389 + j; omega)))) (hInv.1 (457, 4389) (by decide))
            · rw [e5]
              exact RowE_eq (k := 457) (o := 627 * (i + 1)) (fun j hj => hsh i j hi hj) (hInv.1 (457, 627 * (i + 1)) (hprow (i + 1) (by omega)))
          · exact RowE_eq (fun j _ => o1 q.1 (rows9_lt q hq) e _) (hInv.1 q hq)
        · rw [o1 452 (by omega) (by omega)] at hs
          exact GoodR_eq (k := 454) (o := 0) (fun j _ => o1 454 (by omega) (by omega) _) (hInv.2.1.1 hs)
        · exact GoodR_eq (k := 457) (o := 627 * (i + 1)) (fun j hj => hsh i j hi hj) (hInv.2.2 (i + 1) (by omega) (by omega))
      have hgc : GoodR M1 c 0 := GoodR_eq (k := c) (o := 0) (fun j _ => o1 c hcl (by omega) _) hg
      refine seg1 (C := 1000) (F := 0) hu0 hang_K (csL (b := 1) (l := [(178, ctCp c 0 457 (627 * 7))]) hang_K (fun y ct hm => ?_) (by omega)) hmC c4 (by omega) ⟨g1.1, prFa_app (l := [fM 5 8 8]) (prFa_1 (c := 452) (i := 5) (by omega) (by rw [o1 452 (by omega) (by omega)]; omega) (by rw [o1 452 (by omega) (by omega)]; omega)) (of_good hcl hgc), fun q hq => by cases hq⟩ g3 hK (fun q q1 => by cases q1) (fun r r1 r2 r3 q => ?_)
      · have hm : ct ∈ (Bool.rec [] [ctCp c 0 457 (627 * 7)] (Nat.beq 178 y) : List Ctr) := hm
        cases hb : Nat.beq 178 y with
        | false => rw [hb] at hm; cases hm
        | true => rw [hb] at hm; rw [List.mem_singleton.mp hm, ← Nat.eq_of_beq_eq_true hb]; exact cpm 7 (by omega)
      · obtain ⟨w, hw, hw1⟩ := q
        obtain rfl := List.mem_singleton.mp hw
        refine ⟨r1, r2, r3.1, fin 7 M1 _ 8 (by omega) r3.2.1 hw1.2.2.1 (by omega), fun j hj i hi => ?_, _, List.mem_singleton.mpr rfl, hw1.1, fun q => ?_, (fun q hq => by cases hq), (fun q hq => by cases hq)⟩
        · rw [r3.2.2 j hj i hi]
          by_cases e : j = 457
          · rw [e] at hi ⊢
            rw [kd_457] at hi
            refine g7 457 (by omega) i (Or.inr (Or.inr ?_))
            by_cases e9 : i < 5016
            · have h9 : inW wKp 35 ((i : Nat) : Int) = false := hi
              rw [wKp_in e9] at h9; cases h9
            · omega
          · exact o1 j hj e i
        · rw [hw1.1] at q; cases q
  · obtain ⟨m, hm, hme⟩ : ∃ m : Nat, m < 8 ∧ rdI M 452 5 = (m : Int) := ⟨(rdI M 452 5).toNat, by omega, by omega⟩
    refine seg1 (C := 1000) (F := 0) (f := 1000000000000) hu0 hang_K (csL (b := 1) (l := [(178, ctCp c 0 457 (627 * m))]) hang_K (fun y ct hm9 => ?_) (by omega)) hmC (allN_ok c1 m hm) (by omega) ⟨spI_ok (n := 3) (l := [(1, 452, 0), (1, (c : Int), 0)]) h1, prFa_app (l := [fM 5 m m]) (prFa_1 (c := 452) (i := 5) (by omega) (by omega) (by omega)) h2, fun q hq => by cases hq⟩ hT (Inv0_K hme hInv) (fun q q1 => by cases q1) (fun r r1 r2 r3 q => ?_)
    · have hm9 : ct ∈ (Bool.rec [] [ctCp c 0 457 (627 * m)] (Nat.beq 178 y) : List Ctr) := hm9
      cases hb : Nat.beq 178 y with
      | false => rw [hb] at hm9; cases hm9
      | true => rw [hb] at hm9; rw [List.mem_singleton.mp hm9, ← Nat.eq_of_beq_eq_true hb]; exact cpm m hm
    · obtain ⟨w, hw, hw1⟩ := q
      obtain rfl := List.mem_singleton.mp hw
      refine ⟨r1, r2, r3.1, fin m M _ (m + 1) hm r3.2.1 hw1.2.2.1 (by omega), fun j hj i hi => r3.2.2 j hj i hi, _, List.mem_singleton.mpr rfl, hw1.1, fun q => ?_, (fun q hq => by cases hq), (fun q hq => by cases hq)⟩
      rw [hw1.1] at q; cases q
