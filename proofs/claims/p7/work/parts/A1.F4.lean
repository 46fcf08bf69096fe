/-! the reference's copies of its row tell that the static numbers are the same -/
noncomputable def stL : List Nat := [0, 1, 23, 24, 25, 26, 27, 28, 29, 38, 39, 40, 41, 42, 43, 44, 53, 54, 55, 56, 57, 58, 59, 68, 69, 70, 71, 72, 73, 74, 83, 84, 85, 86, 87, 88, 89, 98, 99, 100, 101, 102, 103, 104, 113, 114, 115, 116, 117, 118, 119, 128, 129, 130, 131, 132, 133, 134, 143, 144, 145, 146, 147, 148, 149, 158, 159, 160, 161, 162, 163, 164, 173, 174, 175, 176, 177, 178, 179, 188, 189, 190, 191, 192, 193, 194, 203, 204, 205, 206, 207, 208, 209, 220, 221, 222, 223, 224, 225, 226, 237, 238, 239, 240, 241, 242, 243, 254, 255, 256, 257, 258, 259, 260, 271, 272, 273, 274, 275, 276, 277, 288, 289, 290, 291, 292, 293, 294, 305, 306, 307, 308, 309, 310, 311, 322, 323, 324, 325, 326, 327, 328]
theorem stL_ok : allN 627 (fun i => Bool.rec true (memN i stL) (isSt i)) = true := by decide +kernel
theorem memN_mem {x : Nat} : ∀ {l : List Nat}, memN x l = true → x ∈ l := by
  intro l
  induction l with
  | nil => intro h; cases h
  | cons a l ih =>
    intro h
    have h : (Bool.rec (memN x l) true (Nat.beq a x) : Bool) = true := h
    cases hb : Nat.beq a x with
    | true => rw [Nat.eq_of_beq_eq_true hb]; exact List.mem_cons_self
    | false => rw [hb] at h; exact List.mem_cons_of_mem _ (ih h)
theorem isSt_mem {i : Nat} (hi : i < 627) (h : isSt i = true) : i ∈ stL := by
  have h1 := allN_ok stL_ok i hi
  have h1 : (Bool.rec true (memN i stL) (isSt i) : Bool) = true := h1
  rw [h] at h1
  exact memN_mem h1
theorem stL_lt : ∀ i ∈ stL, i < 627 := by decide +kernel
noncomputable def eqF (a : Nat) : List Fct := stL.map (fun i : Nat => ((.inl a, (0, 0, (i : Int))), (-2147483648), 2147483647))
noncomputable def eqS (a b : Nat) : List Sct := stL.map (fun i : Nat => ((.inl b, (0, 0, (i : Int))), (.inl a, (0, 0, (i : Int))), (-1), 0, 0))
theorem eqS_at {a b : Nat} {M : Mem} (h : PrSu kd0 [] (eqS a b) M) {i : Nat} (hi : i < 627) (hs : isSt i = true) : rdI M b i = rdI M a i := by
  have := sum_at h (c := b) (i := i) (c' := a) (i' := i) (s := -1) (lo := 0) (hi := 0) (List.mem_map.mpr ⟨i, isSt_mem hi hs, rfl⟩)
  omega
theorem eqS_of {a b : Nat} {M : Mem} (ha : a < 466) (hb : b < 466) (h : ∀ i, i < 627 → rdI M b i = rdI M a i) : PrSu kd0 [] (eqS a b) M := by
  intro q hq
  obtain ⟨i, hi, rfl⟩ := List.mem_map.mp hq
  have e := h i (stL_lt i hi)
  exact ⟨b, i, a, i, ⟨⟨hb, rfl⟩, yev_c⟩, ⟨⟨ha, rfl⟩, yev_c⟩, by show (0 : Int) ≤ rdI M b i + -1 * rdI M a i; omega, by show rdI M b i + -1 * rdI M a i ≤ (0 : Int); omega⟩
theorem eqF_of {a : Nat} {M : Mem} (ha : a < 466) (h : ∃ q, sh0 (kd0 a) = .inr (.inl q)) (hT : TI kd0 sh0 rt0 bd0 M) : PrFa kd0 [] (eqF a) M := by
  intro q hq
  obtain ⟨i, hi, rfl⟩ := List.mem_map.mp hq
  obtain ⟨w, hw⟩ := h
  have e := rn_arr (i := i) hT ha hw
  exact ⟨a, i, ⟨⟨ha, rfl⟩, yev_c⟩, by show (-2147483648 : Int) ≤ rdI M a i; rw [e.1]; exact sg_lo _, by show rdI M a i ≤ (2147483647 : Int); rw [e.1]; exact sg_hi _⟩
noncomputable def cpA (a b : Nat) : List APt := [(1, (a : Int), 0), (0, ((0 : Nat) : Int), ((0 : Nat) : Int)), (1, (b : Int), 0), (0, ((0 : Nat) : Int), ((0 : Nat) : Int))]
/-- a copy, for whatever it keeps -/
theorem cpX_ok {Ev : Env9} {Inv : Mem → Prop} {a b : Nat} {W : Wrg} {sm : List Sct} {fe : List Fct} {se : List Sct} (ha : a < 466) (hb : b < 466) (hab : a ≠ b) (h : cpChk a 0 b 0) (hw : allN 627 (fun i => inW W (kd0 b) ((i : Nat) : Int)) = true) (hInv : ∀ M M', TI kd0 sh0 rt0 bd0 M → TI kd0 sh0 rt0 bd0 M' → Inv M → PrSu kd0 [] sm M → PrFa kd0 [] (gdR a 0) M → CpR a 0 b 0 627 M M' → Inv M' ∧ PrFa kd0 [] fe M' ∧ PrSu kd0 [] se M') : ∀ k, 1 ≤ k → CtrOK kd0 sh0 rt0 bd0 Inv Ev (runM k) 178 (cpA a b, gdR a 0, sm, W, [((1, 0), (1, 0, 0), fe, se)]) := by
  intro k hk vs M h1 h2 h3 hT hI
  obtain ⟨k', rfl⟩ : ∃ k', k = k' + 1 := ⟨k - 1, by omega⟩
  obtain ⟨r, e, q1, q2, q3, q4, q5⟩ := cp_call (Ev := Ev) hR9 mdCp_ok ha hb (Or.inl hab) h h1 hT (k := k')
  obtain ⟨i1, i2, i3⟩ := hInv M _ hT q4 hI h3 h2 q5
  refine ⟨r, e, q2, q3, q4, i1, fun k hk i hi => q5.2 k hk i ?_, _, List.mem_singleton.mpr rfl, q1, fun w => ?_, i2, i3⟩
  · by_cases q : k = b
    · rcases Nat.lt_or_ge i 627 with g | g
      · have := allN_ok hw i g
        rw [q] at hi
        rw [show inW W (kd0 b) ((i : Nat) : Int) = true from this] at hi
        cases hi
      · exact Or.inr (Or.inr (by omega))
    · exact Or.inl q
  · rw [q1] at w
    cases w
theorem good_of_cp9 {a b : Nat} {M M' : Mem} (h : CpR a 0 b 0 627 M M') (hg : GoodR M a 0) : GoodR M' b 0 := GoodR_eq (fun j hj => h.1 j hj) hg
theorem gd_cp {a b : Nat} {M M' : Mem} (hb : b < 466) (h : CpR a 0 b 0 627 M M') (hg : PrFa kd0 [] (gdR a 0) M) : PrFa kd0 [] (gdR b 0) M' := of_good hb (good_of_cp9 h (good_of hg))
theorem sa_453 : ∃ q, sh0 (kd0 453) = .inr (.inl q) := ⟨_, rfl⟩
theorem sa_455 : ∃ q, sh0 (kd0 455) = .inr (.inl q) := ⟨_, rfl⟩
theorem sa_456 : ∃ q, sh0 (kd0 456) = .inr (.inl q) := ⟨_, rfl⟩
/-- the program's side stands over a copy of rows -/
theorem JC_cpR {v u : Nat → Int} {a b : Nat} {M M' : Mem} (hb : 453 ≤ b) (h : CpR a 0 b 0 627 M M') (hJ : JC v u M) : JC v u M' := by
  have e : ∀ k : Nat, k < 453 → ∀ i, rdI M' k i = rdI M k i := fun k hk i => h.2 k (by omega) i (Or.inl (by omega))
  obtain ⟨j1, j2, j3⟩ := hJ
  have cc : ∀ C ∈ W9, CpJ C C M M' := fun C hC => by
    have hl : ∀ C ∈ W9, C + 39 < 453 := by decide
    have hl := hl C hC
    exact ⟨e _ (by omega) _, e _ (by omega) _, fun j hj _ i _ => e _ (by omega) _, fun j hj _ i _ => e _ (by omega) _⟩
  refine ⟨StC_cp (cc 7 (by decide)) j1, fun q => StC_cp (cc 87 (by decide)) (j2 (by rw [← e 0 (by decide) 7]; exact q)), fun s hs q => StC_cp (cc _ (W9_s hs)) (j3 s hs ?_)⟩
  obtain ⟨c, q1, q2, q3⟩ := q
  rw [e 126 (by decide) 2] at q2
  rw [e 126 (by decide) 1] at q3
  exact ⟨c, q1, q2, q3⟩
/-- the reference's rows stand over a copy elsewhere -/
theorem JR_cpR {v u : Nat → Int} {a b : Nat} {M M' : Mem} (h3 : b ≠ 453) (h2 : b ≠ 452) (h4 : b ≠ 454) (h7 : b ≠ 457) (h : CpR a 0 b 0 627 M M') (hJ : JR v u M) : JR v u M' := by
  obtain ⟨j1, j2, j3⟩ := hJ
  have e : ∀ k : Nat, k < 466 → k ≠ b → ∀ i, rdI M' k i = rdI M k i := fun k hk hn i => h.2 k hk i (Or.inl hn)
  refine ⟨fun i hi hs => (e 453 (by decide) h3.symm _).trans (j1 i hi hs), fun q i hi hs => (e 454 (by decide) h4.symm _).trans (j2 (by rw [← e 452 (by decide) h2.symm 7]; exact q) i hi hs), fun m hm q i hi hs => (e 457 (by decide) h7.symm _).trans (j3 m hm (by rw [← e 452 (by decide) h2.symm 5]; exact q) i hi hs)⟩
/-- the row laid back -/
theorem JR_bk {v u : Nat → Int} {M M' : Mem} (h : CpR 456 0 453 0 627 M M') (hs : PrSu kd0 [] (eqS 453 456) M) (hJ : JR v u M) : JR v u M' := by
  obtain ⟨j1, j2, j3⟩ := hJ
  have e : ∀ k : Nat, k < 466 → k ≠ 453 → ∀ i, rdI M' k i = rdI M k i := fun k hk hn i => h.2 k hk i (Or.inl hn)
  refine ⟨fun i hi hq => ?_, fun q i hi hs => (e 454 (by decide) (by decide) _).trans (j2 (by rw [← e 452 (by decide) (by decide) 7]; exact q) i hi hs), fun m hm q i hi hs => (e 457 (by decide) (by decide) _).trans (j3 m hm (by rw [← e 452 (by decide) (by decide) 5]; exact q) i hi hs)⟩
  have h1 := h.1 i hi
  rw [Nat.zero_add] at h1 ⊢
  rw [h1, eqS_at hs hi hq]
  have := j1 i hi hq
  rw [Nat.zero_add] at this
  exact this
theorem eq_fw {a b : Nat} {M M' : Mem} (ha : a < 466) (hab : a ≠ b) (h : CpR a 0 b 0 627 M M') : ∀ i, i < 627 → rdI M' b i = rdI M' a i := fun i hi => by
  have h1 := h.1 i hi
  rw [Nat.zero_add] at h1
  exact h1.trans (h.2 a ha i (Or.inl hab)).symm
