/-! keeps, under the static numbers -/
theorem sa_457 : ∃ q, sh0 (kd0 457) = .inr (.inl q) := ⟨_, rfl⟩
theorem so_R : ∃ q, sh0 (kd0 452) = .inl q ∧ q.2[5]? = some 0 ∧ q.2[7]? = some 0 := ⟨_, rfl, rfl, rfl⟩
theorem rnR {M : Mem} {i : Nat} (hT : TI kd0 sh0 rt0 bd0 M) (hi : i = 5 ∨ i = 7) : rdI M 452 i = sg (rN M 452 i) ∧ rN M 452 i < 4294967296 := by
  obtain ⟨q, h1, h2, h3⟩ := so_R
  rcases hi with rfl | rfl
  · exact rn_obj hT (by decide) h1 h2
  · exact rn_obj hT (by decide) h1 h3
theorem pastN {M : Mem} (hT : TI kd0 sh0 rt0 bd0 M) : rN M 452 5 ≤ 8 ∧ rdI M 452 5 = (rN M 452 5 : Nat) := by
  have b := pastM hT
  have r := rnR hT (Or.inl rfl)
  have s : rN M 452 5 ≤ 8 := sg_small r.2 (by decide) (by rw [← r.1]; exact b.1) (by rw [← r.1]; exact b.2)
  exact ⟨s, r.1.trans (sg_eq (by omega))⟩
theorem rw_eq {M M' : Mem} {k k' i i' : Nat} (hT : TI kd0 sh0 rt0 bd0 M) (hT' : TI kd0 sh0 rt0 bd0 M') (hk : k < 466) (hk' : k' < 466) (h : ∃ q, sh0 (kd0 k) = .inr (.inl q)) (h' : ∃ q, sh0 (kd0 k') = .inr (.inl q)) (e : rN M' k i = rN M k' i') : rdI M' k i = rdI M k' i' := by
  obtain ⟨q, hq⟩ := h
  obtain ⟨q', hq'⟩ := h'
  rw [(rn_arr hT' hk hq).1, (rn_arr hT hk' hq').1, e]
/-- one more row is kept -/
theorem JR_keep {v u : Nat → Int} {c : Nat} {M M' : Mem} {g : Vw} (hT : TI kd0 sh0 rt0 bd0 M) (hT' : TI kd0 sh0 rt0 bd0 M') (hc : c = 453 ∨ c = 455) (hJ : JR v u M) (hS : StW v M c 0) (hf : ∀ k, k < 466 → ∀ i, rN M' k i = g k i) (ho : ∀ x y, x ≠ 457 → (x ≠ 452 ∨ y ≠ 5) → g x y = rN M x y) (hg : (∃ m, m < 8 ∧ rN M 452 5 = m ∧ (∀ i, i < 627 → g 457 (627 * m + i) = rN M c i) ∧ (∀ i, i < 627 * m ∨ 627 * m + 627 ≤ i → g 457 i = rN M 457 i) ∧ g 452 5 = m + 1) ∨ (rN M 452 5 = 8 ∧ (∀ i, i < 627 → g 457 (4389 + i) = rN M c i) ∧ (∀ i, i < 4389 → g 457 i = rN M 457 (i + 627)) ∧ g 452 5 = 8)) : JR v u M' ∧ StW v M' c 0 := by
  have sc : ∃ q, sh0 (kd0 c) = .inr (.inl q) := by
    rcases hc with h | h
    · rw [h]
      exact sa_453
    · rw [h]
      exact sa_455
  have hcl : c < 466 := by omega
  have s4 : ∃ q, sh0 (kd0 454) = .inr (.inl q) := ⟨_, rfl⟩
  obtain ⟨j1, j2, j3⟩ := hJ
  have K : ∀ k, k < 466 → k ≠ 457 → k ≠ 452 → (∃ q, sh0 (kd0 k) = .inr (.inl q)) → ∀ i, rdI M' k i = rdI M k i := fun k hk h1 h2 hs i => rw_eq hT hT' hk hk hs hs ((hf k hk i).trans (ho k i h1 (Or.inl h2)))
  have e7 : rdI M' 452 7 = rdI M 452 7 := by rw [(rnR hT' (Or.inr rfl)).1, (rnR hT (Or.inr rfl)).1, hf 452 (by decide) 7, ho 452 7 (by decide) (Or.inr (by decide))]
  obtain ⟨p8, pe⟩ := pastN hT
  obtain ⟨p8', pe'⟩ := pastN hT'
  rw [hf 452 (by decide) 5] at pe'
  have c7 : c ≠ 457 := by
    rcases hc with h | h <;> rw [h] <;> decide
  have c2 : c ≠ 452 := by
    rcases hc with h | h <;> rw [h] <;> decide
  have S : StW v M' c 0 := fun i hi hs => (K c hcl c7 c2 sc _).trans (hS i hi hs)
  have row : ∀ m i, i < 627 → isSt i = true → g 457 (627 * m + i) = rN M c i → rdI M' 457 (627 * m + i) = v i := fun m i hi hs e => by
    have := hS i hi hs
    rw [Nat.zero_add] at this
    rw [← this]
    exact rw_eq hT hT' (by decide) hcl sa_457 sc ((hf 457 (by decide) _).trans e)
  refine ⟨⟨fun i hi hs => (K 453 (by decide) (by decide) (by decide) sa_453 _).trans (j1 i hi hs), fun q i hi hs => (K 454 (by decide) (by decide) (by decide) s4 _).trans (j2 (by rw [← e7]; exact q) i hi hs), fun n hn q i hi hs => ?_⟩, S⟩
  rw [pe'] at q
  rcases hg with ⟨m, hm, h0, h1, h2, h3⟩ | ⟨h0, h1, h2, h3⟩
  · rw [h3] at q
    by_cases e : n = m
    · rw [e]
      exact row m i hi hs (h1 i hi)
    · exact (rw_eq hT hT' (by decide) (by decide) sa_457 sa_457 ((hf 457 (by decide) _).trans (h2 _ (by omega)))).trans (j3 n hn (by rw [pe, h0]; omega) i hi hs)
  · by_cases e : n = 7
    · rw [e]
      exact row 7 i hi hs (h1 i hi)
    · have := (rw_eq hT hT' (by decide) (by decide) sa_457 sa_457 ((hf 457 (by decide) (627 * n + i)).trans (h2 _ (by omega)))).trans (show rdI M 457 (627 * n + i + 627) = v i by
        have := j3 (n + 1) (by omega) (by rw [pe, h0]; omega) i hi hs
        rw [show 627 * (n + 1) + i = 627 * n + i + 627 by omega] at this
        exact this)
      exact this
/-- the program's side hangs on no cell of the reference's -/
theorem JC_lo {v u : Nat → Int} {M M' : Mem} (e : ∀ k : Nat, k < 452 → ∀ i : Nat, JP (kd0 k) i = true → rdI M' k i = rdI M k i) (hJ : JC v u M) : JC v u M' := by
  obtain ⟨j1, j2, j3⟩ := hJ
  have cc : ∀ C ∈ W9, CpJ C C M M' := fun C hC => by
    have hl : ∀ C ∈ W9, C + 39 < 452 := by decide
    have hl := hl C hC
    obtain ⟨k4, k5, k6⟩ := kW_ok hC
    exact ⟨e _ (by omega) 2 (by rw [k4]; exact jp_4 2 (Or.inl rfl)), e _ (by omega) 3 (by rw [k4]; exact jp_4 3 (Or.inr rfl)), fun j hj _ i hi => e _ (by omega) i (by rw [k5 j hj]; exact jp_5 i hi), fun j hj _ i hi => e _ (by omega) i (by rw [k6 j hj]; exact jp_6 i hi)⟩
  refine ⟨StC_cp (cc 7 (by decide)) j1, fun q => StC_cp (cc 87 (by decide)) (j2 (by rw [← e 0 (by decide) 7 jp_07]; exact q)), fun s hs q => StC_cp (cc _ (W9_s hs)) (j3 s hs ?_)⟩
  obtain ⟨c, q1, q2, q3⟩ := q
  rw [e 126 (by decide) 2 jp_h2] at q2
  rw [e 126 (by decide) 1 jp_h1] at q3
  exact ⟨c, q1, q2, q3⟩
/-- a contract that writes nothing of the program's statics -/
noncomputable def noP (ct : Ctr) : Bool := allL ct.2.2.2.1 (fun a => allL SW9 (fun q => Bool.rec (snot (Nat.beq q.1 a.1)) true (Nat.beq q.1 13)))
theorem kdLo : allN 452 (fun k => Bool.rec (Bool.rec true false (Nat.beq (kd0 k) 13)) false (memN (kd0 k) [31, 32, 35])) = true := by decide +kernel
theorem noP_ok {ct : Ctr} (h : noP ct = true) {M M' : Mem} (hf : ∀ k : Nat, k < 466 → ∀ i : Nat, inW ct.2.2.2.1 (kd0 k) i = false → rdI M' k i = rdI M k i) : ∀ k : Nat, k < 452 → ∀ i : Nat, JP (kd0 k) i = true → rdI M' k i = rdI M k i := by
  intro k hk i hj
  refine hf k (by omega) i ?_
  cases hb : inW ct.2.2.2.1 (kd0 k) i with
  | false => rfl
  | true =>
    exfalso
    obtain ⟨a, m1, m2, m3, m4⟩ := inW_mem hb
    have hl := allN_ok kdLo k hk
    have hl : (Bool.rec (Bool.rec true false (Nat.beq (kd0 k) 13)) false (memN (kd0 k) [31, 32, 35]) : Bool) = true := hl
    have hj : (Bool.rec (inW SW9 (kd0 k) (i : Int)) (isSt ((i : Int).toNat % 627)) (memN (kd0 k) [31, 32, 35]) : Bool) = true := hj
    cases hm : memN (kd0 k) [31, 32, 35] with
    | true => rw [hm] at hl; cases hl
    | false =>
      rw [hm] at hl hj
      obtain ⟨q, q1, q2, q3, q4⟩ := inW_mem hj
      have h9 := allL_ok (allL_ok h a m1) q q1
      have h9 : (Bool.rec (snot (Nat.beq q.1 a.1)) true (Nat.beq q.1 13) : Bool) = true := h9
      cases h13 : Nat.beq q.1 13 with
      | true => rw [← q2, h13] at hl; cases hl
      | false =>
        rw [h13, q2, m2, Nat.beq_refl] at h9
        cases h9
theorem np_224 : noP ct_224 = true := by decide +kernel
theorem np_453 : noP (ctKp 453) = true := by decide +kernel
/-- keeps, of either row that has the state's numbers -/
theorem kp_view {Ev : Env9} {c : Nat} {ct : Ctr} {Inv : Mem → Prop} {v u v' u' : Nat → Int} (hc : c = 453 ∨ c = 455) (h : ∀ k, 60 ≤ k → CtrOK kd0 sh0 rt0 bd0 Inv0 Ev (runM k) 258 ct) (ha : ct.1 = [(1, 452, 0), (1, (c : Int), 0)]) (hn : noP ct = true) (h1 : ∀ M, Inv M → Inv1 v u v' u' M ∧ StW v' M c 0) (h2 : ∀ M, Inv1 v u v' u' M → StW v' M c 0 → Inv M) : ∀ k, 60 ≤ k → CtrOK kd0 sh0 rt0 bd0 Inv Ev (runM k) 258 (ct.1, ct.2) := by
  have hcl : c < 466 := by omega
  refine ctr_view (D := 2) (b := 60) (as := [vR 452, vR c]) h (by decide) (fun vs g => ?_) (by rw [ha]; exact ⟨⟨rfl, by decide⟩, ⟨rfl, hcl⟩, trivial⟩) wl2 (fun M g => (h1 M g).1.1) (fun M hT hI => ?_)
  · rw [ha] at g
    match vs, g with
    | [a, b], g => rw [show a = vR 452 from g.1.1, show b = vR c from g.2.1.1]
  · obtain ⟨⟨i0, iC, iR⟩, iS⟩ := h1 M hI
    obtain ⟨p8, -⟩ := pastN hT
    have fin : ∀ g : Vw, (∀ x y, x ≠ 457 → (x ≠ 452 ∨ y ≠ 5) → g x y = rN M x y) → ((∃ m, m < 8 ∧ rN M 452 5 = m ∧ (∀ i, i < 627 → g 457 (627 * m + i) = rN M c i) ∧ (∀ i, i < 627 * m ∨ 627 * m + 627 ≤ i → g 457 i = rN M 457 i) ∧ g 452 5 = m + 1) ∨ (rN M 452 5 = 8 ∧ (∀ i, i < 627 → g 457 (4389 + i) = rN M c i) ∧ (∀ i, i < 4389 → g 457 i = rN M 457 (i + 627)) ∧ g 452 5 = 8)) → ∀ M', TI kd0 sh0 rt0 bd0 M' → Inv0 M' → (∀ k, k < 466 → ∀ i, rN M' k i = g k i) → (∀ k : Nat, k < 466 → ∀ i : Nat, inW ct.2.2.2.1 (kd0 k) i = false → rdI M' k i = rdI M k i) → Inv M' := fun g ho hg M' hT' hI' hf hW => by
      obtain ⟨a, b⟩ := JR_keep hT hT' hc iR iS hf ho hg
      exact h2 M' ⟨hI', JC_lo (noP_ok hn hW) iC, a⟩ b
    by_cases q : rN M 452 5 < 8
    · rcases hc with rfl | rfl
      · obtain ⟨g, e, a1, a2, a3, a4⟩ := v_keepA_453 (D := 0) (f := rN M) q rfl
        exact ⟨_, _, g, e, fin g a4 (Or.inl ⟨_, q, rfl, a1, a2, a3⟩)⟩
      · obtain ⟨g, e, a1, a2, a3, a4⟩ := v_keepA_455 (D := 0) (f := rN M) q rfl
        exact ⟨_, _, g, e, fin g a4 (Or.inl ⟨_, q, rfl, a1, a2, a3⟩)⟩
    · have q : rN M 452 5 = 8 := by omega
      rcases hc with rfl | rfl
      · obtain ⟨g, e, a1, a2, a3, a4⟩ := v_keepB_453 (D := 0) (f := rN M) q
        exact ⟨_, _, g, e, fin g a4 (Or.inr ⟨q, a1, a2, a3⟩)⟩
      · obtain ⟨g, e, a1, a2, a3, a4⟩ := v_keepB_455 (D := 0) (f := rN M) q
        exact ⟨_, _, g, e, fin g a4 (Or.inr ⟨q, a1, a2, a3⟩)⟩
