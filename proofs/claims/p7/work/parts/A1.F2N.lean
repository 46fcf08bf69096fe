/-! copies of worlds, push and pop keep the static numbers -/
theorem ctr_view {Ev : Env9} {y D b : Nat} {ct : Ctr} {as : List AV} {args : List APt} {Inv : Mem → Prop} (h : ∀ k, b ≤ k → CtrOK kd0 sh0 rt0 bd0 Inv0 Ev (runM k) y ct) (hb : D + 5 ≤ b) (hargs : ∀ vs, asOK kd0 args vs → vs = as) (hct : asOK kd0 ct.1 as) (hw : WL as) (hI0 : ∀ M, Inv M → Inv0 M) (hJ : ∀ M, TI kd0 sh0 rt0 bd0 M → Inv M → ∃ e0 v0 g, vM MT0 D y as (rN M) = some (e0, v0, g) ∧ ∀ M', TI kd0 sh0 rt0 bd0 M' → Inv0 M' → (∀ k, k < 466 → ∀ i, rN M' k i = g k i) → (∀ k : Nat, k < 466 → ∀ i : Nat, inW ct.2.2.2.1 (kd0 k) i = false → rdI M' k i = rdI M k i) → Inv M') : ∀ k, b ≤ k → CtrOK kd0 sh0 rt0 bd0 Inv Ev (runM k) y (args, ct.2) := by
  intro k hk vs M h1 h2 h3 hT hInv
  obtain rfl := hargs vs h1
  obtain ⟨r, e, r1, r2, r3, r4, r5, p, p1, p2⟩ := h k hk vs M hct h2 h3 hT (hI0 M hInv)
  obtain ⟨e0, v0, g, hv, hg⟩ := hJ M hT hInv
  obtain ⟨v', S', L', M'', z', e', hv', -, hf⟩ := vM_ok (E := Ev) D k (by omega) y vs (rN M) M (e0, v0, g) hw (TS_of hT) (fun _ _ _ => rfl) hv
  have e2 : some [r] = some [(e0, Ev, v', S', L', M'', 466, z')] := e.symm.trans e'
  injection e2 with e3
  injection e3 with e4
  subst e4
  exact ⟨_, e, r1, r2, r3, hg _ r3 r4 hf r5, r5, p, p1, p2⟩
theorem so4 : ∃ q, sh0 4 = .inl q ∧ q.2[2]? = some 0 ∧ q.2[3]? = some 0 := ⟨_, rfl, rfl, rfl⟩
theorem so5 : ∃ q, sh0 5 = .inl q ∧ q.2[1]? = some 0 ∧ q.2[3]? = some 0 ∧ q.2[4]? = some 0 := ⟨_, rfl, rfl, rfl, rfl⟩
theorem so6 : ∃ q, sh0 6 = .inl q ∧ q.2[1]? = some 0 ∧ q.2[2]? = some 0 := ⟨_, rfl, rfl, rfl⟩
theorem soH : ∃ q, sh0 (kd0 126) = .inl q ∧ q.2[1]? = some 0 ∧ q.2[2]? = some 0 := ⟨_, rfl, rfl, rfl⟩
theorem so0 : ∃ q, sh0 (kd0 0) = .inl q ∧ q.2[13]? = some 0 ∧ q.2[14]? = some 0 := ⟨_, rfl, rfl, rfl⟩
theorem rn4 {M : Mem} {k i : Nat} (hT : TI kd0 sh0 rt0 bd0 M) (hk : k < 466) (h : kd0 k = 4) (hi : i = 2 ∨ i = 3) : rdI M k i = sg (rN M k i) ∧ rN M k i < 4294967296 := by
  obtain ⟨q, h1, h2, h3⟩ := so4
  rw [← h] at h1
  rcases hi with rfl | rfl
  · exact rn_obj hT hk h1 h2
  · exact rn_obj hT hk h1 h3
theorem rn5 {M : Mem} {k i : Nat} (hT : TI kd0 sh0 rt0 bd0 M) (hk : k < 466) (h : kd0 k = 5) (hi : i = 1 ∨ i = 3 ∨ i = 4) : rdI M k i = sg (rN M k i) ∧ rN M k i < 4294967296 := by
  obtain ⟨q, h1, h2, h3, h4⟩ := so5
  rw [← h] at h1
  rcases hi with rfl | rfl | rfl
  · exact rn_obj hT hk h1 h2
  · exact rn_obj hT hk h1 h3
  · exact rn_obj hT hk h1 h4
theorem rn6 {M : Mem} {k i : Nat} (hT : TI kd0 sh0 rt0 bd0 M) (hk : k < 466) (h : kd0 k = 6) (hi : i = 1 ∨ i = 2) : rdI M k i = sg (rN M k i) ∧ rN M k i < 4294967296 := by
  obtain ⟨q, h1, h2, h3⟩ := so6
  rw [← h] at h1
  rcases hi with rfl | rfl
  · exact rn_obj hT hk h1 h2
  · exact rn_obj hT hk h1 h3
/-- long fields too -/
theorem rnJ {M : Mem} {k i : Nat} {q : Nat × List Nat} (hT : TI kd0 sh0 rt0 bd0 M) (hk : k < 466) (hs : sh0 (kd0 k) = .inl q) (hi : q.2[i]? = some 1) : rdI M k i = lsg (rN M k i) := by
  obtain ⟨fs, e1, e2, e3⟩ := co_obj hT hk hs
  obtain ⟨x, x1⟩ := e3 i 1 hi
  have a : rdI M k i = avI (nth fs i) := by
    show rdC (tget 9 M k) i = _
    rw [e1]
    rfl
  have b : rN M k i = rN1 (nth fs i) := by
    show rNc (tget 9 M k) i = _
    rw [e1]
    rfl
  rw [a, b, x1]
  rfl
theorem so5n : ∃ q, sh0 5 = .inl q ∧ q.2[0]? = some 1 := ⟨_, rfl, rfl⟩
theorem so6n : ∃ q, sh0 6 = .inl q ∧ q.2[0]? = some 1 := ⟨_, rfl, rfl⟩
theorem rn5n {M : Mem} {k : Nat} (hT : TI kd0 sh0 rt0 bd0 M) (hk : k < 466) (h : kd0 k = 5) : rdI M k 0 = lsg (rN M k 0) := by
  obtain ⟨q, h1, h2⟩ := so5n
  rw [← h] at h1
  exact rnJ hT hk h1 h2
theorem rn6n {M : Mem} {k : Nat} (hT : TI kd0 sh0 rt0 bd0 M) (hk : k < 466) (h : kd0 k = 6) : rdI M k 0 = lsg (rN M k 0) := by
  obtain ⟨q, h1, h2⟩ := so6n
  rw [← h] at h1
  exact rnJ hT hk h1 h2
theorem eq5 {M M' : Mem} {k k' i : Nat} (hT : TI kd0 sh0 rt0 bd0 M) (hT' : TI kd0 sh0 rt0 bd0 M') (hk : k < 466) (hk' : k' < 466) (h : kd0 k = 5) (h' : kd0 k' = 5) (hi : i = 1 ∨ i = 3 ∨ i = 4 ∨ i = 0) (e : rN M' k i = rN M k' i) : rdI M' k i = rdI M k' i := by
  by_cases z : i = 0
  · subst z
    rw [rn5n hT' hk h, rn5n hT hk' h', e]
  · have hi : i = 1 ∨ i = 3 ∨ i = 4 := by omega
    rw [(rn5 hT' hk h hi).1, (rn5 hT hk' h' hi).1, e]
theorem eq6 {M M' : Mem} {k k' i : Nat} (hT : TI kd0 sh0 rt0 bd0 M) (hT' : TI kd0 sh0 rt0 bd0 M') (hk : k < 466) (hk' : k' < 466) (h : kd0 k = 6) (h' : kd0 k' = 6) (hi : i = 1 ∨ i = 2 ∨ i = 0) (e : rN M' k i = rN M k' i) : rdI M' k i = rdI M k' i := by
  by_cases z : i = 0
  · subst z
    rw [rn6n hT' hk h, rn6n hT hk' h', e]
  · have hi : i = 1 ∨ i = 2 := by omega
    rw [(rn6 hT' hk h hi).1, (rn6 hT hk' h' hi).1, e]
theorem rnH {M : Mem} {i : Nat} (hT : TI kd0 sh0 rt0 bd0 M) (hi : i = 1 ∨ i = 2) : rdI M 126 i = sg (rN M 126 i) ∧ rN M 126 i < 4294967296 := by
  obtain ⟨q, h1, h2, h3⟩ := soH
  rcases hi with rfl | rfl
  · exact rn_obj hT (by decide) h1 h2
  · exact rn_obj hT (by decide) h1 h3
theorem sg_le9 (n : Nat) : sg n ≤ (n : Int) := by
  unfold sg bi
  omega
theorem tyW : allL W9 (fun A => Bool.rec false (ytyp kd0 sh0 A ((3 : Nat) : Int)) (ytyp kd0 sh0 A ((2 : Nat) : Int))) = true := by decide +kernel
theorem bdW : bd0 4 ((2 : Nat) : Int) = (0, 12) ∧ bd0 4 ((3 : Nat) : Int) = (0, 8) := by decide +kernel
theorem tyH : ytyp kd0 sh0 126 ((1 : Nat) : Int) = true ∧ ytyp kd0 sh0 126 ((2 : Nat) : Int) = true := by decide +kernel
theorem bdH : bd0 (kd0 126) ((1 : Nat) : Int) = (0, 7) ∧ bd0 (kd0 126) ((2 : Nat) : Int) = (0, 8) := by decide +kernel
theorem bd_of {M : Mem} {k i : Nat} {lo hi : Int} (hT : TI kd0 sh0 rt0 bd0 M) (ht : ytyp kd0 sh0 k (i : Int) = true) (hb : bd0 (kd0 k) (i : Int) = (lo, hi)) : lo ≤ rdI M k i ∧ rdI M k i ≤ hi := by
  obtain ⟨-, i', h1, h2, h3⟩ := ytyp_ok hT ht
  have e : i' = i := by omega
  subst e
  rw [hb] at h2 h3
  exact ⟨h2, h3⟩
theorem cnt9 {M : Mem} (hT : TI kd0 sh0 rt0 bd0 M) {B : Nat} (hB : B ∈ W9) : (rN M B 2 ≤ 12 ∧ rdI M B 2 = (rN M B 2 : Nat)) ∧ rN M B 3 ≤ 8 ∧ rdI M B 3 = (rN M B 3 : Nat) := by
  obtain ⟨t2, t3⟩ := band (show (Bool.rec false (ytyp kd0 sh0 B ((3 : Nat) : Int)) (ytyp kd0 sh0 B ((2 : Nat) : Int)) : Bool) = true from allL_ok tyW B hB)
  obtain ⟨k4, -, -⟩ := kW_ok hB
  have hl := W9_lt B hB
  have b2 := bd_of hT t2 (show bd0 (kd0 B) ((2 : Nat) : Int) = (0, 12) by rw [k4]; exact bdW.1)
  have b3 := bd_of hT t3 (show bd0 (kd0 B) ((3 : Nat) : Int) = (0, 8) by rw [k4]; exact bdW.2)
  have r2 := rn4 (i := 2) hT (show B < 466 by omega) k4 (Or.inl rfl)
  have r3 := rn4 (i := 3) hT (show B < 466 by omega) k4 (Or.inr rfl)
  have s2 : rN M B 2 ≤ 12 := sg_small r2.2 (by decide) (by rw [← r2.1]; exact b2.1) (by rw [← r2.1]; exact b2.2)
  have s3 : rN M B 3 ≤ 8 := sg_small r3.2 (by decide) (by rw [← r3.1]; exact b3.1) (by rw [← r3.1]; exact b3.2)
  exact ⟨⟨s2, r2.1.trans (sg_eq (by omega))⟩, s3, r3.1.trans (sg_eq (by omega))⟩
theorem cntH {M : Mem} (hT : TI kd0 sh0 rt0 bd0 M) : (rN M 126 1 < 8 ∧ rdI M 126 1 = (rN M 126 1 : Nat)) ∧ rN M 126 2 ≤ 8 ∧ rdI M 126 2 = (rN M 126 2 : Nat) := by
  have b1 := bd_of hT tyH.1 bdH.1
  have b2 := bd_of hT tyH.2 bdH.2
  have r1 := rnH hT (Or.inl rfl)
  have r2 := rnH hT (Or.inr rfl)
  have s1 : rN M 126 1 ≤ 7 := sg_small r1.2 (by decide) (by rw [← r1.1]; exact b1.1) (by rw [← r1.1]; exact b1.2)
  have s2 : rN M 126 2 ≤ 8 := sg_small r2.2 (by decide) (by rw [← r2.1]; exact b2.1) (by rw [← r2.1]; exact b2.2)
  exact ⟨⟨by omega, r1.1.trans (sg_eq (by omega))⟩, s2, r2.1.trans (sg_eq (by omega))⟩
theorem W9_dj : ∀ A ∈ W9, ∀ C ∈ W9, C ≠ A → C + 39 ≤ A ∨ A + 39 ≤ C := by decide
/-- a view's copy of a world, of the memory -/
theorem cpJ_of {A B : Nat} {M M' : Mem} {f g : Vw} (hA : A ∈ W9) (hB : B ∈ W9) (hT : TI kd0 sh0 rt0 bd0 M) (hT' : TI kd0 sh0 rt0 bd0 M') (hff : ∀ k i, k ≠ 126 → f k i = rN M k i) (hc : CpW A B f g) (hf : ∀ k, k < 466 → k ≠ 126 → ∀ i, rN M' k i = g k i) : CpJ A B M M' ∧ ∀ C ∈ W9, C ≠ A → CpJ C C M M' := by
  obtain ⟨a4, a5, a6⟩ := kW_ok hA
  obtain ⟨b4, b5, b6⟩ := kW_ok hB
  have la := W9_lt A hA
  have lb := W9_lt B hB
  have n126 : ∀ C ∈ W9, C + 39 ≤ 126 ∨ 126 < C := by decide
  have na := n126 A hA
  have nb := n126 B hB
  obtain ⟨⟨-, c2⟩, -, c3⟩ := cnt9 hT hB
  obtain ⟨p1, p2, p3, p4⟩ := hc
  have E : ∀ k k' i, k < 466 → k' < 466 → k ≠ 126 → k' ≠ 126 → g k i = f k' i → rN M' k i = rN M k' i := fun k k' i h1 h2 h3 h4 e => (hf k h1 h3 i).trans (e.trans (hff k' i h4))
  refine ⟨⟨?_, ?_, fun j hj h9 i hi => ?_, fun j hj h9 i hi => ?_⟩, fun C hC hne => ?_⟩
  · rw [(rn4 hT' (show A < 466 by omega) a4 (Or.inl rfl)).1, (rn4 hT (show B < 466 by omega) b4 (Or.inl rfl)).1, E A B 2 (by omega) (by omega) (by omega) (by omega) (p1 2 (by decide) (by decide))]
  · rw [(rn4 hT' (show A < 466 by omega) a4 (Or.inr rfl)).1, (rn4 hT (show B < 466 by omega) b4 (Or.inr rfl)).1, E A B 3 (by omega) (by omega) (by omega) (by omega) (p1 3 (by decide) (by decide))]
  · rw [c2] at h9
    exact eq5 hT hT' (show A + 3 + j < 466 by omega) (show B + 3 + j < 466 by omega) (a5 j hj) (b5 j hj) hi (E (A + 3 + j) (B + 3 + j) i (by omega) (by omega) (by omega) (by omega) (p2 j (by rw [hff B 2 (by omega)]; omega) i (by omega)))
  · rw [c3] at h9
    exact eq6 hT hT' (show A + 15 + 3 * j < 466 by omega) (show B + 15 + 3 * j < 466 by omega) (a6 j hj) (b6 j hj) hi (E (A + 15 + 3 * j) (B + 15 + 3 * j) i (by omega) (by omega) (by omega) (by omega) ((p3 j (by rw [hff B 3 (by omega)]; omega)).1 i (by omega) (by omega) (by omega)))
  · have dj := W9_dj A hA C hC hne
    have lc := W9_lt C hC
    have nc := n126 C hC
    obtain ⟨k4, k5, k6⟩ := kW_ok hC
    refine ⟨?_, ?_, fun j hj h9 i hi => ?_, fun j hj h9 i hi => ?_⟩
    · rw [(rn4 hT' (show C < 466 by omega) k4 (Or.inl rfl)).1, (rn4 hT (show C < 466 by omega) k4 (Or.inl rfl)).1, E C C 2 (by omega) (by omega) (by omega) (by omega) (p4 C 2 (by omega))]
    · rw [(rn4 hT' (show C < 466 by omega) k4 (Or.inr rfl)).1, (rn4 hT (show C < 466 by omega) k4 (Or.inr rfl)).1, E C C 3 (by omega) (by omega) (by omega) (by omega) (p4 C 3 (by omega))]
    · exact eq5 hT hT' (show C + 3 + j < 466 by omega) (show C + 3 + j < 466 by omega) (k5 j hj) (k5 j hj) hi (E (C + 3 + j) (C + 3 + j) i (by omega) (by omega) (by omega) (by omega) (p4 (C + 3 + j) i (by omega)))
    · exact eq6 hT hT' (show C + 15 + 3 * j < 466 by omega) (show C + 15 + 3 * j < 466 by omega) (k6 j hj) (k6 j hj) hi (E (C + 15 + 3 * j) (C + 15 + 3 * j) i (by omega) (by omega) (by omega) (by omega) (p4 (C + 15 + 3 * j) i (by omega)))
theorem JR_fr9 {v u : Nat → Int} {M M' : Mem} (hf : ∀ k : Nat, 452 ≤ k → k < 466 → ∀ i : Nat, JP (kd0 k) i = true → rdI M' k i = rdI M k i) (h : JR v u M) : JR v u M' := by
  obtain ⟨a, b, c⟩ := h
  have S : ∀ (w : Nat → Int) (k o : Nat), 452 ≤ k → k < 466 → memN (kd0 k) [31, 32, 35] = true → StW w M k (627 * o) → StW w M' k (627 * o) := fun w k o h1 h2 hm h i hi hs => (hf k h1 h2 (627 * o + i) (jp_row hm hi hs)).trans (h i hi hs)
  refine ⟨S v 453 0 (by decide) (by decide) kr_3 a, fun q => ?_, fun i hi q => ?_⟩
  · rw [hf 452 (by decide) (by decide) 7 jp_r7] at q
    exact S u 454 0 (by decide) (by decide) kr_4 (b q)
  · rw [hf 452 (by decide) (by decide) 5 jp_r5] at q
    exact S v 457 i (by decide) (by decide) kr_7 (c i hi q)
noncomputable def noC (ct : Ctr) : Bool := allL ct.2.2.2.1 (fun a => Bool.rec false (snot (memN a.1 [31, 32, 35])) (snot (Nat.beq a.1 13)))
theorem noC_ok {ct : Ctr} (h : noC ct = true) {M M' : Mem} (hf : ∀ k : Nat, k < 466 → ∀ i : Nat, inW ct.2.2.2.1 (kd0 k) i = false → rdI M' k i = rdI M k i) : ∀ k : Nat, 452 ≤ k → k < 466 → ∀ i : Nat, JP (kd0 k) i = true → rdI M' k i = rdI M k i := by
  intro k hk hl i hj
  refine hf k hl i ?_
  cases hb : inW ct.2.2.2.1 (kd0 k) i with
  | false => rfl
  | true =>
    exfalso
    obtain ⟨a, m1, m2, m3, m4⟩ := inW_mem hb
    obtain ⟨h1, h2⟩ := band (show (Bool.rec false (snot (memN a.1 [31, 32, 35])) (snot (Nat.beq a.1 13)) : Bool) = true from allL_ok h a m1)
    have h1 := snot_t h1
    have h2 := snot_t h2
    rw [m2] at h1 h2
    have hj : (Bool.rec (inW SW9 (kd0 k) (i : Int)) (isSt ((i : Int).toNat % 627)) (memN (kd0 k) [31, 32, 35]) : Bool) = true := hj
    rw [h2] at hj
    obtain ⟨q, q1, q2, q3, q4⟩ := inW_mem hj
    have hK : allN 14 (fun j => Bool.rec (allL SW9 (fun q => snot (Nat.beq q.1 (kd0 (452 + j))))) true (Bool.rec (memN (kd0 (452 + j)) [31, 32, 35]) true (Nat.beq (kd0 (452 + j)) 13))) = true := by decide +kernel
    have hk9 := allN_ok hK (k - 452) (by omega)
    have hk9 : (Bool.rec (allL SW9 (fun q => snot (Nat.beq q.1 (kd0 (452 + (k - 452)))))) true (Bool.rec (memN (kd0 (452 + (k - 452))) [31, 32, 35]) true (Nat.beq (kd0 (452 + (k - 452))) 13)) : Bool) = true := hk9
    rw [show 452 + (k - 452) = k by omega, h1, h2] at hk9
    have := snot_t (allL_ok (show allL SW9 (fun q => snot (Nat.beq q.1 (kd0 k))) = true from hk9) q q1)
    rw [q2, Nat.beq_refl] at this
    cases this
/-- the program's side, out of its pieces -/
theorem JC_mk {v u v' u' : Nat → Int} {M M' : Mem} (h7 : StC v' M' 7) (h87 : rdI M' 0 7 = 1 → StC u' M' 87) (hs : ∀ s, s < 8 → LvS M' s → StC v' M' (128 + 39 * s)) : JC v' u' M' := ⟨h7, h87, hs⟩
theorem n4_46 : noC ct_46 = true := by decide +kernel
theorem n4_126 : noC ct_126 = true := by decide +kernel
theorem n4_134 : noC ct_134 = true := by decide +kernel
theorem w46_0 : inW ct_46.2.2.2.1 (kd0 0) ((7 : Nat) : Int) = false ∧ inW ct_46.2.2.2.1 (kd0 126) ((1 : Nat) : Int) = false ∧ inW ct_46.2.2.2.1 (kd0 126) ((2 : Nat) : Int) = false := by decide +kernel
theorem w126_0 : inW ct_126.2.2.2.1 (kd0 0) ((7 : Nat) : Int) = false := by decide +kernel
theorem w134_0 : inW ct_134.2.2.2.1 (kd0 0) ((7 : Nat) : Int) = false := by decide +kernel
noncomputable def cp46 : Ctr := ([(1, 46, 0), (1, 7, 0)], ct_46.2)
theorem wl2 {a b : Nat} : WL [vR a, vR b] := wl_k (v := vR a) trivial (wl_k (v := vR b) trivial vwl_0)
theorem cp46_ok {Ev : Env9} {v u v' u' : Nat → Int} : CKI (Inv1 v u v' u') Ev 9 (70, cp46) := by
  refine ctr_view (D := 2) (b := 9) (as := [vR 46, vR 7]) (cc_46 (Ev := Ev)) (by decide) (fun vs h => ?_) ⟨⟨46, rfl, by decide, by decide +kernel⟩, ⟨7, rfl, by decide, by decide +kernel⟩, trivial⟩ wl2 (fun M h => h.1) (fun M hT hI => ?_)
  · match vs, h with
    | [a, b], h => rw [show a = vR 46 from h.1.1, show b = vR 7 from h.2.1.1]
  · obtain ⟨⟨k2, -⟩, k3, -⟩ := cnt9 hT (show 7 ∈ W9 by decide)
    obtain ⟨g, e, hc⟩ := v_cp_46_7 (D := 0) (f := rN M) k2 k3
    refine ⟨_, _, g, e, fun M' hT' hI' hf hW => ⟨hI', ?_, JR_fr9 (noC_ok n4_46 hW) hI.2.2⟩⟩
    obtain ⟨-, cc⟩ := cpJ_of (A := 46) (B := 7) (by decide) (by decide) hT hT' (fun _ _ _ => rfl) hc (fun k hk _ i => hf k hk i)
    obtain ⟨j1, j2, j3⟩ := hI.2.1
    refine ⟨StC_cp (cc 7 (by decide) (by decide)) j1, fun q => ?_, fun s hs q => ?_⟩
    · rw [hW 0 (by decide) 7 w46_0.1] at q
      exact StC_cp (cc 87 (by decide) (by decide)) (j2 q)
    · refine StC_cp (cc _ (W9_s hs) (by omega)) (j3 s hs ?_)
      obtain ⟨c, q1, q2, q3⟩ := q
      rw [hW 126 (by decide) 2 w46_0.2.2] at q2
      rw [hW 126 (by decide) 1 w46_0.2.1] at q3
      exact ⟨c, q1, q2, q3⟩
theorem v_pushS {D s : Nat} (hs : s < 8) {f0 : Vw} (hc8 : f0 126 2 ≤ 8) (k2 : f0 7 2 ≤ 12) (k3 : f0 7 3 ≤ 8) : ∃ g1 g, vM MT0 (D + 3) 27 [vR 126, vR 7] (vup f0 126 1 s) = some ((1, 0), vW 3, g) ∧ CpW (128 + 39 * s) 7 (vup f0 126 1 s) g1 ∧ (∀ k i, k ≠ 126 → g k i = g1 k i) ∧ g 126 1 = (s + 1) % 8 ∧ g 126 2 = (if f0 126 2 < 8 then f0 126 2 + 1 else 8) :=
  match s, hs with
    | 0, _ => v_push_0 (D := D) hc8 k2 k3
    | 1, _ => v_push_1 (D := D) hc8 k2 k3
    | 2, _ => v_push_2 (D := D) hc8 k2 k3
    | 3, _ => v_push_3 (D := D) hc8 k2 k3
    | 4, _ => v_push_4 (D := D) hc8 k2 k3
    | 5, _ => v_push_5 (D := D) hc8 k2 k3
    | 6, _ => v_push_6 (D := D) hc8 k2 k3
    | 7, _ => v_push_7 (D := D) hc8 k2 k3
    | n + 8, h => absurd h (by omega)
theorem v_popS {D s : Nat} (hs : s < 8) {f0 : Vw} (hc : 1 ≤ f0 126 2) (hc8 : f0 126 2 ≤ 8) (k2 : f0 (128 + 39 * s) 2 ≤ 12) (k3 : f0 (128 + 39 * s) 3 ≤ 8) : ∃ g1 g, vM MT0 (D + 3) 28 [vR 126, vR 7] (vup f0 126 1 ((s + 1) % 8)) = some ((1, 0), vW 3, g) ∧ CpW 7 (128 + 39 * s) (vup (vup f0 126 1 ((s + 1) % 8)) 126 1 s) g1 ∧ (∀ k i, k ≠ 126 → g k i = g1 k i) ∧ g 126 1 = s ∧ g 126 2 = f0 126 2 - 1 :=
  match s, hs, k2, k3 with
    | 0, _, k2, k3 => v_pop_0 (D := D) hc hc8 k2 k3
    | 1, _, k2, k3 => v_pop_1 (D := D) hc hc8 k2 k3
    | 2, _, k2, k3 => v_pop_2 (D := D) hc hc8 k2 k3
    | 3, _, k2, k3 => v_pop_3 (D := D) hc hc8 k2 k3
    | 4, _, k2, k3 => v_pop_4 (D := D) hc hc8 k2 k3
    | 5, _, k2, k3 => v_pop_5 (D := D) hc hc8 k2 k3
    | 6, _, k2, k3 => v_pop_6 (D := D) hc hc8 k2 k3
    | 7, _, k2, k3 => v_pop_7 (D := D) hc hc8 k2 k3
    | n + 8, h, _, _ => absurd h (by omega)
noncomputable def cpPu : Ctr := ([(1, 126, 0), (1, 7, 0)], ct_126.2)
theorem push_ok {Ev : Env9} {v u v' u' : Nat → Int} : CKI (Inv1 v u v' u') Ev 18 (27, cpPu) := by
  refine ctr_view (D := 3) (b := 18) (as := [vR 126, vR 7]) (cc_126 (Ev := Ev)) (by decide) (fun vs h => ?_) ⟨⟨rfl, by decide⟩, ⟨7, rfl, by decide, by decide +kernel⟩, trivial⟩ wl2 (fun M h => h.1) (fun M hT hI => ?_)
  · match vs, h with
    | [a, b], h => rw [show a = vR 126 from h.1.1, show b = vR 7 from h.2.1.1]
  · obtain ⟨⟨k2, -⟩, k3, -⟩ := cnt9 hT (show 7 ∈ W9 by decide)
    obtain ⟨⟨n8, en⟩, c8, ec⟩ := cntH hT
    obtain ⟨g1, g, e, hc, hg, x1, x2⟩ := v_pushS (D := 0) n8 (f0 := rN M) c8 k2 k3
    rw [vup_id rfl] at e hc
    refine ⟨_, _, g, e, fun M' hT' hI' hf hW => ⟨hI', ?_, JR_fr9 (noC_ok n4_126 hW) hI.2.2⟩⟩
    obtain ⟨c7, cc⟩ := cpJ_of (A := 128 + 39 * rN M 126 1) (B := 7) (W9_s n8) (by decide) hT hT' (fun _ _ _ => rfl) hc (fun k hk h9 i => (hf k hk i).trans (hg k i h9))
    obtain ⟨j1, j2, j3⟩ := hI.2.1
    obtain ⟨⟨n8', en'⟩, c8', ec'⟩ := cntH hT'
    rw [hf 126 (by decide) 1, x1] at en'
    rw [hf 126 (by decide) 2, x2] at ec'
    refine ⟨StC_cp (cc 7 (by decide) (by omega)) j1, fun q => ?_, fun s hs q => ?_⟩
    · rw [hW 0 (by decide) 7 w126_0] at q
      exact StC_cp (cc 87 (by decide) (by omega)) (j2 q)
    · by_cases q0 : s = rN M 126 1
      · rw [q0]
        exact StC_cp c7 j1
      · refine StC_cp (cc _ (W9_s hs) (by omega)) (j3 s hs ?_)
        obtain ⟨c, q1, q2, q3⟩ := q
        rw [ec'] at q2
        rw [en'] at q3
        refine ⟨c - 1, ?_, ?_, ?_⟩
        · by_cases q9 : c = 1
          · exfalso
            subst q9
            omega
          · omega
        · rw [ec]
          by_cases q9 : rN M 126 2 < 8
          · rw [if_pos q9] at q2
            omega
          · rw [if_neg q9] at q2
            omega
        · rw [en]
          have : c ≤ 8 := by
            by_cases q9 : rN M 126 2 < 8
            · rw [if_pos q9] at q2
              omega
            · rw [if_neg q9] at q2
              omega
          have : 1 < c := by
            by_cases q9 : c = 1
            · exfalso
              subst q9
              omega
            · omega
          omega
/-- nothing was written: each world's statics stand -/
theorem kp_of {C : Nat} {M M' : Mem} (hC : C ∈ W9) (hT : TI kd0 sh0 rt0 bd0 M) (hT' : TI kd0 sh0 rt0 bd0 M') (e : ∀ k i, k < 466 → k ≠ 126 → rN M' k i = rN M k i) : CpJ C C M M' := by
  have lc := W9_lt C hC
  have n126 : ∀ C ∈ W9, C + 39 ≤ 126 ∨ 126 < C := by decide
  have nc := n126 C hC
  obtain ⟨k4, k5, k6⟩ := kW_ok hC
  refine ⟨?_, ?_, fun j hj h9 i hi => ?_, fun j hj h9 i hi => ?_⟩
  · rw [(rn4 hT' (show C < 466 by omega) k4 (Or.inl rfl)).1, (rn4 hT (show C < 466 by omega) k4 (Or.inl rfl)).1, e C 2 (by omega) (by omega)]
  · rw [(rn4 hT' (show C < 466 by omega) k4 (Or.inr rfl)).1, (rn4 hT (show C < 466 by omega) k4 (Or.inr rfl)).1, e C 3 (by omega) (by omega)]
  · exact eq5 hT hT' (show C + 3 + j < 466 by omega) (show C + 3 + j < 466 by omega) (k5 j hj) (k5 j hj) hi (e (C + 3 + j) i (by omega) (by omega))
  · exact eq6 hT hT' (show C + 15 + 3 * j < 466 by omega) (show C + 15 + 3 * j < 466 by omega) (k6 j hj) (k6 j hj) hi (e (C + 15 + 3 * j) i (by omega) (by omega))
theorem v_popZ {D : Nat} {f : Vw} (hc : f 126 2 = 0) : vM MT0 (D + 1) 28 [vR 126, vR 7] f = some ((1, 0), vW 3, f) := by
  refine vM_go rfl rfl rfl rfl fun F hF => ?_
  refine (vF_g rfl rfl).trans ?_
  refine (vlt (x := f 126 2) (y := 1) (by decide) (by rw [hc]; decide)).trans ?_
  exact (vF_g rfl rfl).trans rfl
noncomputable def cpPo : Ctr := ([(1, 126, 0), (1, 7, 0)], ct_134.2)
theorem pop_ok {Ev : Env9} {v u v' u' : Nat → Int} : CKI (Inv1 v u v' u') Ev 18 (28, cpPo) := by
  refine ctr_view (D := 3) (b := 18) (as := [vR 126, vR 7]) (cc_134 (Ev := Ev)) (by decide) (fun vs h => ?_) ⟨⟨rfl, by decide⟩, ⟨7, rfl, by decide, by decide +kernel⟩, trivial⟩ wl2 (fun M h => h.1) (fun M hT hI => ?_)
  · match vs, h with
    | [a, b], h => rw [show a = vR 126 from h.1.1, show b = vR 7 from h.2.1.1]
  · obtain ⟨⟨n8, en⟩, c8, ec⟩ := cntH hT
    obtain ⟨j1, j2, j3⟩ := hI.2.1
    by_cases hc0 : rN M 126 2 = 0
    · refine ⟨_, _, _, v_popZ (D := 2) hc0, fun M' hT' hI' hf hW => ⟨hI', ?_, JR_fr9 (noC_ok n4_134 hW) hI.2.2⟩⟩
      have cc : ∀ C ∈ W9, CpJ C C M M' := fun C hC => kp_of hC hT hT' (fun k i hk _ => hf k hk i)
      obtain ⟨⟨-, en'⟩, -, ec'⟩ := cntH hT'
      rw [hf 126 (by decide) 1] at en'
      rw [hf 126 (by decide) 2] at ec'
      refine ⟨StC_cp (cc 7 (by decide)) j1, fun q => ?_, fun s hs q => StC_cp (cc _ (W9_s hs)) (j3 s hs ?_)⟩
      · rw [hW 0 (by decide) 7 w134_0] at q
        exact StC_cp (cc 87 (by decide)) (j2 q)
      · obtain ⟨c, q1, q2, q3⟩ := q
        exact ⟨c, q1, by rw [ec, ← ec']; exact q2, by rw [en, ← en']; exact q3⟩
    · obtain ⟨s, hs, hn⟩ : ∃ s, s < 8 ∧ rN M 126 1 = (s + 1) % 8 := ⟨(rN M 126 1 + 7) % 8, by omega, by omega⟩
      obtain ⟨⟨k2, -⟩, k3, -⟩ := cnt9 hT (W9_s hs)
      obtain ⟨g1, g, e, hc, hg, x1, x2⟩ := v_popS (D := 0) hs (f0 := rN M) (by omega) c8 k2 k3
      rw [vup_id hn] at e hc
      refine ⟨_, _, g, e, fun M' hT' hI' hf hW => ⟨hI', ?_, JR_fr9 (noC_ok n4_134 hW) hI.2.2⟩⟩
      obtain ⟨c7, cc⟩ := cpJ_of (A := 7) (B := 128 + 39 * s) (by decide) (W9_s hs) hT hT' (fun k i h9 => vup_ne (Or.inl h9)) hc (fun k hk h9 i => (hf k hk i).trans (hg k i h9))
      obtain ⟨⟨-, en'⟩, -, ec'⟩ := cntH hT'
      rw [hf 126 (by decide) 1, x1] at en'
      rw [hf 126 (by decide) 2, x2] at ec'
      have lv : ∀ c : Nat, 1 ≤ c → c ≤ rN M 126 2 → ∀ t : Nat, t < 8 → ((rN M 126 1 : Int) + 8 - c) % 8 = t → LvS M t := fun c h1 h2 t _ h3 => ⟨c, h1, by rw [ec]; omega, by rw [en]; exact h3⟩
      refine ⟨StC_cp c7 (j3 s hs (lv 1 (by decide) (by omega) s hs (by rw [hn]; omega))), fun q => ?_, fun t ht q => ?_⟩
      · rw [hW 0 (by decide) 7 w134_0] at q
        exact StC_cp (cc 87 (by decide) (by decide)) (j2 q)
      · refine StC_cp (cc _ (W9_s ht) (by omega)) (j3 t ht ?_)
        obtain ⟨c, q1, q2, q3⟩ := q
        rw [ec'] at q2
        rw [en'] at q3
        refine lv (c + 1) (by omega) (by omega) t ht ?_
        rw [hn]
        omega
