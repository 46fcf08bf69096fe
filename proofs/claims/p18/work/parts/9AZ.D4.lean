/-! what holds of the reference's rows between calls -/
theorem cp_ctr {bo : Bo9} {R : Nat → Call} {Ev : Env9} {Inv : Mem → Prop} (hR : ∀ k y E n as M, R (k + 1) y E n as M = bo y (R k) E n as M) (hmd : MDOK bo 178 mdCp) {a a0 b b0 : Nat} (ha : a < 466) (hb : b < 466) (_hk : ∀ j, j < 466 → kd0 j = kd0 b → j = b) (hab : a ≠ b ∨ b0 + 627 ≤ a0 ∨ a0 + 627 ≤ b0) (h : cpChk a a0 b b0) {W : Wrg} (hW : ∀ i, i < 627 → inW W (kd0 b) ((b0 + i : Nat) : Int) = true)
    (hInv : ∀ M M', TI kd0 sh0 rt0 bd0 M → Inv M → CpR a a0 b b0 627 M M' → Inv M') (need : List (Nat × Int × Int)) (hn : ∀ q ∈ need, q.1 < 627) : ∀ k, 1 ≤ k → CtrOK kd0 sh0 rt0 bd0 Inv Ev (R k) 178 ([(1, (a : Int), 0), (0, (a0 : Int), (a0 : Int)), (1, (b : Int), 0), (0, (b0 : Int), (b0 : Int))], need.map (fun q => ((.inl a, (0, 0, ((a0 + q.1 : Nat) : Int))), q.2)), [], W, [((1, 0), (1, 0, 0), need.map (fun q => ((.inl b, (0, 0, ((b0 + q.1 : Nat) : Int))), q.2)), [])]) := by
  intro k hk1 vs M h1 h2 _ hT hI
  obtain ⟨k', rfl⟩ : ∃ k', k = k' + 1 := ⟨k - 1, by omega⟩
  obtain ⟨r, e, r1, r2, r3, r4, r5⟩ := cp_call (Ev := Ev) hR hmd (k := k') ha hb hab h h1 hT
  refine ⟨r, e, r2, r3, r4, hInv _ _ hT hI r5, fun j hj i hi => r5.2 j hj i ?_, _, List.mem_singleton.mpr rfl, r1, fun q => ?_, ?_, fun q hq => by cases hq⟩
  · by_cases e1 : j = b
    · by_cases e2 : i < b0
      · exact Or.inr (Or.inl e2)
      · by_cases e3 : b0 + 627 ≤ i
        · exact Or.inr (Or.inr e3)
        · have h9 := hW (i - b0) (by omega)
          rw [show b0 + (i - b0) = i by omega, ← e1, hi] at h9
          cases h9
    · exact Or.inl e1
  · rw [r1] at q; cases q
  · intro q hq
    obtain ⟨w, hw, rfl⟩ := List.mem_map.mp hq
    have h9 := fact_at h2 (c := a) (i := a0 + w.1) (lo := w.2.1) (hi := w.2.2) (List.mem_map.mpr ⟨w, hw, rfl⟩)
    refine fact_of hb ?_
    rw [r5.1 w.1 (hn w hw)]
    exact h9
def rows9 : List (Nat × Nat) := [(453, 0), (454, 0), (455, 0), (456, 0), (457, 0), (457, 627), (457, 1254), (457, 1881), (457, 2508), (457, 3135), (457, 3762), (457, 4389)]
/-- an echo with an employer is in its staff -/
def RowE (M : Mem) (k o : Nat) : Prop := ∀ e : Nat, e < 12 → ∀ v : Nat, v < 8 → rdI M k (o + (36 + 15 * e)) = (v : Int) + 1 → ∃ p : Nat, p < 3 ∧ (p : Int) < rdI M k (o + (216 + 17 * v)) ∧ rdI M k (o + (217 + 17 * v + p)) = (e : Int)
def InvE (M : Mem) : Prop := ∀ q ∈ rows9, RowE M q.1 q.2
def GoodR (M : Mem) (k o : Nat) : Prop := (1 ≤ rdI M k (o + 3) ∧ rdI M k (o + 3) ≤ 30) ∧ (1 ≤ rdI M k (o + 4) ∧ rdI M k (o + 4) ≤ 12) ∧ (1 ≤ rdI M k (o + 0) ∧ rdI M k (o + 0) ≤ 12) ∧ (1 ≤ rdI M k (o + 1) ∧ rdI M k (o + 1) ≤ 8)
/-- what a command's numbers are: its verb, the first, the second -/
def relL : List (Int × (Int × Int) × (Int × Int)) := [(0, (1, 60), (-2147483648, 2147483647)), (1, (-2147483648, 2147483647), (-2147483648, 2147483647)), (2, (0, 7), (0, 11)), (3, (0, 11), (-2147483648, 2147483647)), (4, (0, 7), (1, 99)), (5, (0, 7), (1, 999)), (6, (0, 11), (-2147483648, 2147483647))]
def Rel9 (x y z : Int) : Prop := ∃ q ∈ relL, x = q.1 ∧ (q.2.1.1 ≤ y ∧ y ≤ q.2.1.2) ∧ (q.2.2.1 ≤ z ∧ z ≤ q.2.2.2)
def XCo (M : Mem) : Prop := ∀ i : Nat, i < 30 → (i : Int) < rdI M 448 4 → Rel9 (rdI M 449 i) (rdI M 450 i) (rdI M 451 i)
def XTo (M : Mem) : Prop := ∀ i : Nat, i < 30 → (i : Int) < rdI M 452 25 → Rel9 (rdI M 463 (3 * i)) (rdI M 463 (3 * i + 1)) (rdI M 463 (3 * i + 2))
def InvS (M : Mem) : Prop := (rdI M 452 7 = 1 → GoodR M 454 0) ∧ XCo M ∧ XTo M
theorem XC_eq {M M' : Mem} (h : ∀ k i : Nat, k = 448 ∧ i = 4 ∨ k = 449 ∨ k = 450 ∨ k = 451 → i < 30 → rdI M' k i = rdI M k i) (hx : XCo M) : XCo M' := by
  intro i hi h1
  rw [h 448 4 (by omega) (by omega)] at h1
  rw [h 449 i (by omega) hi, h 450 i (by omega) hi, h 451 i (by omega) hi]
  exact hx i hi h1
theorem XT_eq {M M' : Mem} (h : ∀ k i : Nat, k = 452 ∧ i = 25 ∨ k = 463 → i < 90 → rdI M' k i = rdI M k i) (hx : XTo M) : XTo M' := by
  intro i hi h1
  rw [h 452 25 (by omega) (by omega)] at h1
  rw [h 463 (3 * i) (by omega) (by omega), h 463 (3 * i + 1) (by omega) (by omega), h 463 (3 * i + 2) (by omega) (by omega)]
  exact hx i hi h1
def InvK (m : Nat) (M : Mem) : Prop := InvE M ∧ InvS M ∧ ∀ i : Nat, i < m → i < 8 → GoodR M 457 (627 * i)
def Inv0 (M : Mem) : Prop := InvE M ∧ InvS M ∧ ∀ i : Nat, i < 8 → (i : Int) < rdI M 452 5 → GoodR M 457 (627 * i)
theorem RowE_eq {M M' : Mem} {k o k' o' : Nat} (h : ∀ j, j < 627 → rdI M' k' (o' + j) = rdI M k (o + j)) (hr : RowE M k o) : RowE M' k' o' := by
  intro e he v hv h1
  rw [h _ (by omega)] at h1
  obtain ⟨p, p1, p2, p3⟩ := hr e he v hv h1
  exact ⟨p, p1, by rw [h _ (by omega)]; exact p2, by rw [h _ (by omega)]; exact p3⟩
theorem GoodR_eq {M M' : Mem} {k o k' o' : Nat} (h : ∀ j, j < 627 → rdI M' k' (o' + j) = rdI M k (o + j)) (hr : GoodR M k o) : GoodR M' k' o' := by
  unfold GoodR
  rw [h 3 (by omega), h 4 (by omega), h 0 (by omega), h 1 (by omega)]
  exact hr
theorem rows9_ne : ∀ q ∈ rows9, ∀ w ∈ rows9, q ≠ w → q.1 ≠ w.1 ∨ q.2 + 627 ≤ w.2 ∨ w.2 + 627 ≤ q.2 := by decide
theorem rows9_lt : ∀ q ∈ rows9, q.1 < 466 := by decide
theorem InvE_cp {a a0 b b0 : Nat} {M M' : Mem} (ha : (a, a0) ∈ rows9) (hb : (b, b0) ∈ rows9) (h : CpR a a0 b b0 627 M M') (hI : InvE M) : InvE M' := by
  intro q hq
  by_cases e : q = (b, b0)
  · rw [e]
    exact RowE_eq (k := a) (o := a0) h.1 (hI (a, a0) ha)
  · refine RowE_eq (k := q.1) (o := q.2) (fun j hj => h.2 q.1 (rows9_lt q hq) (q.2 + j) ?_) (hI q hq)
    rcases rows9_ne q hq (b, b0) hb e with h1 | h1 | h1
    · exact Or.inl h1
    · have h1 : q.2 + 627 ≤ b0 := h1
      exact Or.inr (Or.inl (by omega))
    · have h1 : b0 + 627 ≤ q.2 := h1
      exact Or.inr (Or.inr (by omega))
/-- what stays where a row is copied -/
theorem good_cp {a a0 b b0 : Nat} {M M' : Mem} {k o : Nat} (h : CpR a a0 b b0 627 M M') (hk : k < 466) (hd : k ≠ b ∨ o + 627 ≤ b0 ∨ b0 + 627 ≤ o) (hg : GoodR M k o) : GoodR M' k o :=
  GoodR_eq (fun j hj => h.2 k hk (o + j) (by rcases hd with h1 | h1 | h1 <;> omega)) hg
theorem InvX_cp {a a0 b b0 : Nat} {M M' : Mem} (h : CpR a a0 b b0 627 M M') (h1 : 453 ≤ b) (h2 : b ≤ 457) : (XCo M → XCo M') ∧ (XTo M → XTo M') :=
  ⟨XC_eq fun k i hk _ => h.2 k (by omega) i (Or.inl (by omega)), XT_eq fun k i hk _ => h.2 k (by omega) i (Or.inl (by omega))⟩
theorem InvS_cp {a a0 b b0 : Nat} {M M' : Mem} (h : CpR a a0 b b0 627 M M') (h1 : 453 ≤ b ∧ b ≤ 457) (h2 : b ≠ 454) (hI : InvS M) : InvS M' := by
  refine ⟨fun hs => ?_, (InvX_cp h h1.1 h1.2).1 hI.2.1, (InvX_cp h h1.1 h1.2).2 hI.2.2⟩
  rw [h.2 452 (by omega) 7 (Or.inl (by omega))] at hs
  exact good_cp h (by omega) (Or.inl (Ne.symm h2)) (hI.1 hs)
theorem InvK_cp {a a0 b b0 m : Nat} {M M' : Mem} (ha : (a, a0) ∈ rows9) (hb : (b, b0) ∈ rows9) (h : CpR a a0 b b0 627 M M') (h1 : 453 ≤ b ∧ b ≤ 457) (h2 : b ≠ 454) (h3 : b ≠ 457 ∨ 627 * m ≤ b0) (hI : InvK m M) : InvK m M' :=
  ⟨InvE_cp ha hb h hI.1, InvS_cp h h1 h2 hI.2.1, fun i hi hi8 => good_cp h (by omega) (by rcases h3 with h4 | h4; exact Or.inl (Ne.symm h4); exact Or.inr (Or.inl (by omega))) (hI.2.2 i hi hi8)⟩
theorem Inv0_cp {a a0 b b0 : Nat} {M M' : Mem} (ha : (a, a0) ∈ rows9) (hb : (b, b0) ∈ rows9) (h : CpR a a0 b b0 627 M M') (h1 : 453 ≤ b ∧ b ≤ 457) (h2 : b ≠ 454) (h3 : b ≠ 457) (hI : Inv0 M) : Inv0 M' :=
  ⟨InvE_cp ha hb h hI.1, InvS_cp h h1 h2 hI.2.1, fun i hi h9 => good_cp h (by omega) (Or.inl (Ne.symm h3)) (hI.2.2 i hi (by rw [h.2 452 (by omega) 5 (Or.inl (by omega))] at h9; exact h9))⟩
theorem Inv0_K {M : Mem} {m : Nat} (hm : rdI M 452 5 = (m : Int)) (h : Inv0 M) : InvK m M := ⟨h.1, h.2.1, fun i h1 h2 => h.2.2 i h2 (by omega)⟩
theorem InvK_0 {M : Mem} {m : Nat} (hm : rdI M 452 5 ≤ (m : Int)) (h : InvK m M) : Inv0 M := ⟨h.1, h.2.1, fun i h1 h2 => h.2.2 i (by omega) h1⟩
noncomputable def allL {α : Type} (l : List α) (f : α → Bool) : Bool := List.rec true (fun a _ ih => Bool.rec false ih (f a)) l
theorem allL_ok {α : Type} {f : α → Bool} : ∀ {l : List α}, allL l f = true → ∀ a ∈ l, f a = true := by
  intro l
  induction l with
  | nil => intro _ a h; cases h
  | cons b l ih =>
    intro h a hm
    obtain ⟨h1, h2⟩ := band (show (Bool.rec false (allL l f) (f b) : Bool) = true from h)
    rcases List.mem_cons.mp hm with e | e
    · rw [e]; exact h1
    · exact ih h2 a e
/-- the same, but that the number of rows kept may be written -/
noncomputable def PRK (κ : Nat) (v : Int) : Bool := Bool.rec (PR0 κ v) (Bool.rec (PR0 κ v) false (ieq v 5)) (Nat.beq κ 13)
noncomputable def hgE (PR : Nat → Int → Bool) : Bool := allL rows9 (fun q => Bool.rec false (allN 8 (fun v => Bool.rec false (allN 3 (fun p => PR (kd0 q.1) ((q.2 + (217 + 17 * v + p) : Nat) : Int))) (PR (kd0 q.1) ((q.2 + (216 + 17 * v) : Nat) : Int)))) (allN 12 (fun e => PR (kd0 q.1) ((q.2 + (36 + 15 * e) : Nat) : Int))))
theorem hang_E {PR : Nat → Int → Bool} (h : hgE PR = true) {M M' : Mem} (hf : ∀ k : Nat, k < 466 → ∀ i : Nat, PR (kd0 k) i = true → rdI M' k i = rdI M k i) (hI : InvE M) : InvE M' := by
  intro q hq e he v hv h1
  have hk := rows9_lt q hq
  obtain ⟨g1, g2⟩ := band (show (Bool.rec false (allN 8 (fun v => Bool.rec false (allN 3 (fun p => PR (kd0 q.1) ((q.2 + (217 + 17 * v + p) : Nat) : Int))) (PR (kd0 q.1) ((q.2 + (216 + 17 * v) : Nat) : Int)))) (allN 12 (fun e => PR (kd0 q.1) ((q.2 + (36 + 15 * e) : Nat) : Int))) : Bool) = true from allL_ok h q hq)
  obtain ⟨g3, g4⟩ := band (show (Bool.rec false (allN 3 (fun p => PR (kd0 q.1) ((q.2 + (217 + 17 * v + p) : Nat) : Int))) (PR (kd0 q.1) ((q.2 + (216 + 17 * v) : Nat) : Int)) : Bool) = true from allN_ok g2 v hv)
  rw [hf q.1 hk _ (allN_ok g1 e he)] at h1
  obtain ⟨p, p1, p2, p3⟩ := hI q hq e he v hv h1
  exact ⟨p, p1, by rw [hf q.1 hk _ g3]; exact p2, by rw [hf q.1 hk _ (allN_ok g4 p p1)]; exact p3⟩
noncomputable def hgX (PR : Nat → Int → Bool) : Bool := Bool.rec false (Bool.rec false (Bool.rec false (allN 30 (fun i => allL [449, 450, 451] (fun k => PR (kd0 k) (i : Int)))) (allN 90 (fun i => PR (kd0 463) (i : Int)))) (PR (kd0 452) ((25 : Nat) : Int))) (PR (kd0 448) ((4 : Nat) : Int))
theorem hang_X {PR : Nat → Int → Bool} (h : hgX PR = true) {M M' : Mem} (hf : ∀ k : Nat, k < 466 → ∀ i : Nat, PR (kd0 k) i = true → rdI M' k i = rdI M k i) : (XCo M → XCo M') ∧ (XTo M → XTo M') := by
  obtain ⟨g1, g⟩ := band (show (Bool.rec false (Bool.rec false (Bool.rec false (allN 30 (fun i => allL [449, 450, 451] (fun k => PR (kd0 k) (i : Int)))) (allN 90 (fun i => PR (kd0 463) (i : Int)))) (PR (kd0 452) ((25 : Nat) : Int))) (PR (kd0 448) ((4 : Nat) : Int)) : Bool) = true from h)
  obtain ⟨g2, g⟩ := band g
  obtain ⟨g3, g4⟩ := band g
  refine ⟨XC_eq fun k i hk hi => ?_, XT_eq fun k i hk hi => ?_⟩
  · rcases hk with ⟨e1, e2⟩ | e | e | e
    · rw [e1, e2]; exact hf 448 (by omega) 4 g1
    · rw [e]; exact hf 449 (by omega) i (allL_ok (allN_ok g4 i hi) 449 (by decide))
    · rw [e]; exact hf 450 (by omega) i (allL_ok (allN_ok g4 i hi) 450 (by decide))
    · rw [e]; exact hf 451 (by omega) i (allL_ok (allN_ok g4 i hi) 451 (by decide))
  · rcases hk with ⟨e1, e2⟩ | e
    · rw [e1, e2]; exact hf 452 (by omega) 25 g2
    · rw [e]; exact hf 463 (by omega) i (allN_ok g3 i hi)
noncomputable def hgG (PR : Nat → Int → Bool) : Bool := Bool.rec false (Bool.rec false (allL [0, 1, 2, 3, 4, 5, 6, 7] (fun i => allL [3, 4, 0, 1] (fun j => PR (kd0 457) ((627 * i + j : Nat) : Int)))) (allL [3, 4, 0, 1] (fun j => PR (kd0 454) ((0 + j : Nat) : Int)))) (PR (kd0 452) ((7 : Nat) : Int))
theorem good_fr {PR : Nat → Int → Bool} {k o : Nat} (hk : k < 466) (h : allL [3, 4, 0, 1] (fun j => PR (kd0 k) ((o + j : Nat) : Int)) = true) {M M' : Mem} (hf : ∀ k : Nat, k < 466 → ∀ i : Nat, PR (kd0 k) i = true → rdI M' k i = rdI M k i) (hg : GoodR M k o) : GoodR M' k o := by
  unfold GoodR
  rw [hf k hk _ (allL_ok h 3 (by decide)), hf k hk _ (allL_ok h 4 (by decide)), hf k hk _ (allL_ok h 0 (by decide)), hf k hk _ (allL_ok h 1 (by decide))]
  exact hg
theorem hang_S {PR : Nat → Int → Bool} (h : hgG PR = true) (hx : hgX PR = true) {M M' : Mem} (hf : ∀ k : Nat, k < 466 → ∀ i : Nat, PR (kd0 k) i = true → rdI M' k i = rdI M k i) (hI : InvS M) : InvS M' := by
  obtain ⟨g1, g⟩ := band (show (Bool.rec false (Bool.rec false (allL [0, 1, 2, 3, 4, 5, 6, 7] (fun i => allL [3, 4, 0, 1] (fun j => PR (kd0 457) ((627 * i + j : Nat) : Int)))) (allL [3, 4, 0, 1] (fun j => PR (kd0 454) ((0 + j : Nat) : Int)))) (PR (kd0 452) ((7 : Nat) : Int)) : Bool) = true from h)
  obtain ⟨g2, g3⟩ := band g
  refine ⟨fun hs => ?_, (hang_X hx hf).1 hI.2.1, (hang_X hx hf).2 hI.2.2⟩
  rw [hf 452 (by omega) 7 g1] at hs
  exact good_fr (by omega) g2 hf (hI.1 hs)
theorem hang_P {PR : Nat → Int → Bool} (h : hgG PR = true) {M M' : Mem} (hf : ∀ k : Nat, k < 466 → ∀ i : Nat, PR (kd0 k) i = true → rdI M' k i = rdI M k i) {i : Nat} (hi : i < 8) (hg : GoodR M 457 (627 * i)) : GoodR M' 457 (627 * i) := by
  obtain ⟨g1, g⟩ := band (show (Bool.rec false (Bool.rec false (allL [0, 1, 2, 3, 4, 5, 6, 7] (fun i => allL [3, 4, 0, 1] (fun j => PR (kd0 457) ((627 * i + j : Nat) : Int)))) (allL [3, 4, 0, 1] (fun j => PR (kd0 454) ((0 + j : Nat) : Int)))) (PR (kd0 452) ((7 : Nat) : Int)) : Bool) = true from h)
  obtain ⟨g2, g3⟩ := band g
  refine good_fr (by omega) (allL_ok g3 i ?_) hf hg
  have : i = 0 ∨ i = 1 ∨ i = 2 ∨ i = 3 ∨ i = 4 ∨ i = 5 ∨ i = 6 ∨ i = 7 := by omega
  rcases this with e | e | e | e | e | e | e | e <;> rw [e] <;> decide
theorem hgE_0 : hgE PR0 = true := by decide +kernel
theorem hgE_K : hgE PRK = true := by decide +kernel
theorem hgX_0 : hgX PR0 = true := by decide +kernel
theorem hgX_K : hgX PRK = true := by decide +kernel
theorem hgG_0 : hgG PR0 = true := by decide +kernel
theorem hgG_K : hgG PRK = true := by decide +kernel
theorem pr0_m : PR0 (kd0 452) ((5 : Nat) : Int) = true := by decide +kernel
theorem hang_0 : Hang kd0 PR0 Inv0 := fun _ _ h hf => ⟨hang_E hgE_0 hf h.1, hang_S hgG_0 hgX_0 hf h.2.1, fun i hi h9 => hang_P hgG_0 hf hi (h.2.2 i hi (by rw [hf 452 (by omega) 5 pr0_m] at h9; exact h9))⟩
theorem hang_K {m : Nat} : Hang kd0 PRK (InvK m) := fun _ _ h hf => ⟨hang_E hgE_K hf h.1, hang_S hgG_K hgX_K hf h.2.1, fun i h1 h2 => hang_P hgG_K hf h2 (h.2.2 i h1 h2)⟩
theorem hang_E0 : Hang kd0 PR0 InvE := fun _ _ h hf => hang_E hgE_0 hf h
theorem hang_EK : Hang kd0 PRK InvE := fun _ _ h hf => hang_E hgE_K hf h
/-- only the row of now is another -/
theorem Inv0_s {M M' : Mem} (hE : RowE M' 453 0) (hO : ∀ k : Nat, k < 466 → k ≠ 453 → ∀ i : Nat, (k = 452 → i = 5 ∨ i = 7 ∨ i = 25) → rdI M' k i = rdI M k i) (h : Inv0 M) : Inv0 M' := by
  have gd : ∀ k o, k < 466 → k ≠ 453 → k ≠ 452 → GoodR M k o → GoodR M' k o := fun k o h1 h2 h3 hg => GoodR_eq (fun j _ => hO k h1 h2 _ (fun q => absurd q h3)) hg
  refine ⟨fun q hq => ?_, ⟨fun hs => ?_, XC_eq (fun k i hk _ => hO k (by omega) (by omega) i (by omega)) h.2.1.2.1, XT_eq (fun k i hk _ => hO k (by omega) (by omega) i (by omega)) h.2.1.2.2⟩, fun i hi h1 => ?_⟩
  · by_cases e : q = (453, 0)
    · rw [e]; exact hE
    · have e2 : q.1 ≠ 453 ∧ q.1 ≠ 452 := by
        revert e
        exact (by decide : ∀ q ∈ rows9, ¬ q = (453, 0) → q.1 ≠ 453 ∧ q.1 ≠ 452) q hq
      exact RowE_eq (fun j _ => hO q.1 (rows9_lt q hq) e2.1 _ (fun w => absurd w e2.2)) (h.1 q hq)
  · rw [hO 452 (by omega) (by omega) 7 (by omega)] at hs
    exact gd 454 0 (by omega) (by omega) (by omega) (h.2.1.1 hs)
  · rw [hO 452 (by omega) (by omega) 5 (by omega)] at h1
    exact gd 457 _ (by omega) (by omega) (by omega) (h.2.2 i hi h1)
