/-! the static numbers: what only a configuration sets -/
noncomputable def stT : TrT Bool 10 := ((((((((((true, true), (false, false)), ((false, false), (false, false))), (((false, false), (false, false)), ((false, false), (false, false)))), ((((false, false), (false, false)), ((false, false), (false, true))), (((true, true), (true, true)), ((true, true), (false, false))))), (((((false, false), (false, false)), ((false, false), (true, true))), (((true, true), (true, true)), ((true, false), (false, false)))), ((((false, false), (false, false)), ((false, true), (true, true))), (((true, true), (true, true)), ((false, false), (false, false)))))), ((((((false, false), (false, false)), ((true, true), (true, true))), (((true, true), (true, false)), ((false, false), (false, false)))), ((((false, false), (false, true)), ((true, true), (true, true))), (((true, true), (false, false)), ((false, false), (false, false))))), (((((false, false), (true, true)), ((true, true), (true, true))), (((true, false), (false, false)), ((false, false), (false, false)))), ((((false, true), (true, true)), ((true, true), (true, true))), (((false, false), (false, false)), ((false, false), (false, false))))))), (((((((true, true), (true, true)), ((true, true), (true, false))), (((false, false), (false, false)), ((false, false), (false, true)))), ((((true, true), (true, true)), ((true, true), (false, false))), (((false, false), (false, false)), ((false, false), (true, true))))), (((((true, true), (true, true)), ((true, false), (false, false))), (((false, false), (false, false)), ((false, true), (true, true)))), ((((true, true), (true, true)), ((false, false), (false, false))), (((false, false), (false, false)), ((true, true), (true, true)))))), ((((((true, true), (true, false)), ((false, false), (false, false))), (((false, false), (false, true)), ((true, true), (true, true)))), ((((true, true), (false, false)), ((false, false), (false, false))), (((false, false), (false, false)), ((true, true), (true, true))))), (((((true, true), (true, false)), ((false, false), (false, false))), (((false, false), (false, false)), ((false, true), (true, true)))), ((((true, true), (true, true)), ((false, false), (false, false))), (((false, false), (false, false)), ((false, false), (true, true)))))))), ((((((((true, true), (true, true)), ((true, false), (false, false))), (((false, false), (false, false)), ((false, false), (false, true)))), ((((true, true), (true, true)), ((true, true), (false, false))), (((false, false), (false, false)), ((false, false), (false, false))))), (((((true, true), (true, true)), ((true, true), (true, false))), (((false, false), (false, false)), ((false, false), (false, false)))), ((((false, true), (true, true)), ((true, true), (true, true))), (((false, false), (false, false)), ((false, false), (false, false)))))), ((((((false, false), (true, true)), ((true, true), (true, true))), (((true, false), (false, false)), ((false, false), (false, false)))), ((((false, false), (false, false)), ((false, false), (false, false))), (((false, false), (false, false)), ((false, false), (false, false))))), (((((false, false), (false, false)), ((false, false), (false, false))), (((false, false), (false, false)), ((false, false), (false, false)))), ((((false, false), (false, false)), ((false, false), (false, false))), (((false, false), (false, false)), ((false, false), (false, false))))))), (((((((false, false), (false, false)), ((false, false), (false, false))), (((false, false), (false, false)), ((false, false), (false, false)))), ((((false, false), (false, false)), ((false, false), (false, false))), (((false, false), (false, false)), ((false, false), (false, false))))), (((((false, false), (false, false)), ((false, false), (false, false))), (((false, false), (false, false)), ((false, false), (false, false)))), ((((false, false), (false, false)), ((false, false), (false, false))), (((false, false), (false, false)), ((false, false), (false, false)))))), ((((((false, false), (false, false)), ((false, false), (false, false))), (((false, false), (false, false)), ((false, false), (false, false)))), ((((false, false), (false, false)), ((false, false), (false, false))), (((false, false), (false, false)), ((false, false), (false, false))))), (((((false, false), (false, false)), ((false, false), (false, false))), (((false, false), (false, false)), ((false, false), (false, false)))), ((((false, false), (false, false)), ((false, false), (false, false))), (((false, false), (false, false)), ((false, false), (false, false))))))))), (((((((((false, false), (false, false)), ((false, false), (false, false))), (((false, false), (false, false)), ((false, false), (false, false)))), ((((false, false), (false, false)), ((false, false), (false, false))), (((false, false), (false, false)), ((false, false), (false, false))))), (((((false, false), (false, false)), ((false, false), (false, false))), (((false, false), (false, false)), ((false, false), (false, false)))), ((((false, false), (false, false)), ((false, false), (false, false))), (((false, false), (false, false)), ((false, false), (false, false)))))), ((((((false, false), (false, false)), ((false, false), (false, false))), (((false, false), (false, false)), ((false, false), (false, false)))), ((((false, false), (false, false)), ((false, false), (false, false))), (((false, false), (false, false)), ((false, false), (false, false))))), (((((false, false), (false, false)), ((false, false), (false, false))), (((false, false), (false, false)), ((false, false), (false, false)))), ((((false, false), (false, false)), ((false, false), (false, false))), (((false, false), (false, false)), ((false, false), (false, false))))))), (((((((false, false), (false, false)), ((false, false), (false, false))), (((false, false), (false, false)), ((false, false), (false, false)))), ((((false, false), (false, false)), ((false, false), (false, false))), (((false, false), (false, false)), ((false, false), (false, false))))), (((((false, false), (false, false)), ((false, false), (false, false))), (((false, false), (false, false)), ((false, false), (false, false)))), ((((false, false), (false, false)), ((false, false), (false, false))), (((false, false), (false, false)), ((false, false), (false, false)))))), ((((((false, false), (false, false)), ((false, false), (false, false))), (((false, false), (false, false)), ((false, false), (false, false)))), ((((false, false), (false, false)), ((false, false), (false, false))), (((false, false), (false, false)), ((false, false), (false, false))))), (((((false, false), (false, false)), ((false, false), (false, false))), (((false, false), (false, false)), ((false, false), (false, false)))), ((((false, false), (false, false)), ((false, false), (false, false))), (((false, false), (false, false)), ((false, false), (false, false)))))))), ((((((((false, false), (false, false)), ((false, false), (false, false))), (((false, false), (false, false)), ((false, false), (false, false)))), ((((false, false), (false, false)), ((false, false), (false, false))), (((false, false), (false, false)), ((false, false), (false, false))))), (((((false, false), (false, false)), ((false, false), (false, false))), (((false, false), (false, false)), ((false, false), (false, false)))), ((((false, false), (false, false)), ((false, false), (false, false))), (((false, false), (false, false)), ((false, false), (false, false)))))), ((((((false, false), (false, false)), ((false, false), (false, false))), (((false, false), (false, false)), ((false, false), (false, false)))), ((((false, false), (false, false)), ((false, false), (false, false))), (((false, false), (false, false)), ((false, false), (false, false))))), (((((false, false), (false, false)), ((false, false), (false, false))), (((false, false), (false, false)), ((false, false), (false, false)))), ((((false, false), (false, false)), ((false, false), (false, false))), (((false, false), (false, false)), ((false, false), (false, false))))))), (((((((false, false), (false, false)), ((false, false), (false, false))), (((false, false), (false, false)), ((false, false), (false, false)))), ((((false, false), (false, false)), ((false, false), (false, false))), (((false, false), (false, false)), ((false, false), (false, false))))), (((((false, false), (false, false)), ((false, false), (false, false))), (((false, false), (false, false)), ((false, false), (false, false)))), ((((false, false), (false, false)), ((false, false), (false, false))), (((false, false), (false, false)), ((false, false), (false, false)))))), ((((((false, false), (false, false)), ((false, false), (false, false))), (((false, false), (false, false)), ((false, false), (false, false)))), ((((false, false), (false, false)), ((false, false), (false, false))), (((false, false), (false, false)), ((false, false), (false, false))))), (((((false, false), (false, false)), ((false, false), (false, false))), (((false, false), (false, false)), ((false, false), (false, false)))), ((((false, false), (false, false)), ((false, false), (false, false))), (((false, false), (false, false)), ((false, false), (false, false))))))))))
noncomputable def isSt (i : Nat) : Bool := tget 10 stT i
noncomputable def SW9 : Wrg := [(4, 2, 3), (5, 0, 1), (5, 3, 4), (6, 0, 2), (0, 7, 7), (8, 1, 2), (13, 5, 5), (13, 7, 7)]
noncomputable def JP (κ : Nat) (v : Int) : Bool := Bool.rec (inW SW9 κ v) (isSt (v.toNat % 627)) (memN κ [31, 32, 35])
noncomputable def PR1 (κ : Nat) (v : Int) : Bool := Bool.rec (JP κ v) true (PR0 κ v)
theorem pr1_0 {κ : Nat} {v : Int} (h : PR0 κ v = true) : PR1 κ v = true := by
  show (Bool.rec (JP κ v) true (PR0 κ v) : Bool) = true
  rw [h]
theorem pr1_J {κ : Nat} {v : Int} (h : JP κ v = true) : PR1 κ v = true := by
  show (Bool.rec (JP κ v) true (PR0 κ v) : Bool) = true
  rw [h]
  cases PR0 κ v <;> rfl
/-- the static places stand as they stood -/
def JFr (M M' : Mem) : Prop := ∀ k : Nat, k < 466 → ∀ i : Nat, JP (kd0 k) i = true → rdI M' k i = rdI M k i
/-- the worlds -/
def W9 : List Nat := [7, 46, 87, 128, 167, 206, 245, 284, 323, 362, 401]
noncomputable def kW (A : Nat) : Bool := Bool.rec false (Bool.rec false (allN 8 (fun j => Nat.beq (kd0 (A + 15 + 3 * j)) 6)) (allN 12 (fun j => Nat.beq (kd0 (A + 3 + j)) 5))) (Nat.beq (kd0 A) 4)
theorem kW_all : allL W9 kW = true := by decide +kernel
theorem kW_ok {A : Nat} (h : A ∈ W9) : kd0 A = 4 ∧ (∀ j, j < 12 → kd0 (A + 3 + j) = 5) ∧ ∀ j, j < 8 → kd0 (A + 15 + 3 * j) = 6 := by
  obtain ⟨h1, h2⟩ := band (show (Bool.rec false (Bool.rec false (allN 8 (fun j => Nat.beq (kd0 (A + 15 + 3 * j)) 6)) (allN 12 (fun j => Nat.beq (kd0 (A + 3 + j)) 5))) (Nat.beq (kd0 A) 4) : Bool) = true from allL_ok kW_all A h)
  obtain ⟨h2, h3⟩ := band h2
  exact ⟨Nat.eq_of_beq_eq_true h1, fun j hj => Nat.eq_of_beq_eq_true (allN_ok h2 j hj), fun j hj => Nat.eq_of_beq_eq_true (allN_ok h3 j hj)⟩
theorem W9_lt : ∀ A ∈ W9, A + 39 < 466 := by decide
theorem W9_s {s : Nat} (h : s < 8) : 128 + 39 * s ∈ W9 := by
  rcases (show s = 0 ∨ s = 1 ∨ s = 2 ∨ s = 3 ∨ s = 4 ∨ s = 5 ∨ s = 6 ∨ s = 7 by omega) with rfl | rfl | rfl | rfl | rfl | rfl | rfl | rfl <;> decide
theorem jp_4 : ∀ i, i = 2 ∨ i = 3 → JP 4 ((i : Nat) : Int) = true := by
  rintro i (rfl | rfl) <;> decide +kernel
theorem jp_5 : ∀ i, i = 1 ∨ i = 3 ∨ i = 4 ∨ i = 0 → JP 5 ((i : Nat) : Int) = true := by
  rintro i (rfl | rfl | rfl | rfl) <;> decide +kernel
theorem jp_6 : ∀ i, i = 1 ∨ i = 2 ∨ i = 0 → JP 6 ((i : Nat) : Int) = true := by
  rintro i (rfl | rfl | rfl) <;> decide +kernel
/-- a world's static numbers, as a row has them -/
def StC (v : Nat → Int) (M : Mem) (A : Nat) : Prop := rdI M A 2 = v 0 ∧ rdI M A 3 = v 1 ∧ (∀ j : Nat, j < 12 → (j : Int) < v 0 → rdI M (A + 3 + j) 1 = v (30 + 15 * j) ∧ rdI M (A + 3 + j) 3 = v (32 + 15 * j) ∧ rdI M (A + 3 + j) 4 = v (33 + 15 * j) ∧ rdI M (A + 3 + j) 0 = v (700 + j)) ∧ ∀ j : Nat, j < 8 → (j : Int) < v 1 → rdI M (A + 15 + 3 * j) 1 = v (210 + 17 * j) ∧ rdI M (A + 15 + 3 * j) 2 = v (211 + 17 * j) ∧ rdI M (A + 15 + 3 * j) 0 = v (720 + j)
/-- the statics of one world are now those that another had -/
def CpJ (A B : Nat) (M M' : Mem) : Prop := rdI M' A 2 = rdI M B 2 ∧ rdI M' A 3 = rdI M B 3 ∧ (∀ j : Nat, j < 12 → (j : Int) < rdI M B 2 → ∀ i, i = 1 ∨ i = 3 ∨ i = 4 ∨ i = 0 → rdI M' (A + 3 + j) i = rdI M (B + 3 + j) i) ∧ ∀ j : Nat, j < 8 → (j : Int) < rdI M B 3 → ∀ i, i = 1 ∨ i = 2 ∨ i = 0 → rdI M' (A + 15 + 3 * j) i = rdI M (B + 15 + 3 * j) i
theorem StC_cp {v : Nat → Int} {A B : Nat} {M M' : Mem} (h : CpJ A B M M') (hs : StC v M B) : StC v M' A := by
  obtain ⟨c0, c1, c2, c3⟩ := h
  obtain ⟨s0, s1, s2, s3⟩ := hs
  refine ⟨c0.trans s0, c1.trans s1, fun j hj h9 => ?_, fun j hj h9 => ?_⟩
  · obtain ⟨a, b, c, d⟩ := s2 j hj h9
    have q := c2 j hj (by rw [s0]; exact h9)
    exact ⟨(q 1 (Or.inl rfl)).trans a, (q 3 (Or.inr (Or.inl rfl))).trans b, (q 4 (Or.inr (Or.inr (Or.inl rfl)))).trans c, (q 0 (Or.inr (Or.inr (Or.inr rfl)))).trans d⟩
  · obtain ⟨a, b, c⟩ := s3 j hj h9
    have q := c3 j hj (by rw [s1]; exact h9)
    exact ⟨(q 1 (Or.inl rfl)).trans a, (q 2 (Or.inr (Or.inl rfl))).trans b, (q 0 (Or.inr (Or.inr rfl))).trans c⟩
/-- a world's static places stand as they stood -/
def KpJ (A : Nat) (M M' : Mem) : Prop := CpJ A A M M'
theorem KpJ_fr {A : Nat} {M M' : Mem} (hA : A ∈ W9) (hf : JFr M M') : CpJ A A M M' := by
  obtain ⟨k4, k5, k6⟩ := kW_ok hA
  have hl := W9_lt A hA
  refine ⟨hf A (by omega) 2 (by rw [k4]; exact jp_4 2 (Or.inl rfl)), hf A (by omega) 3 (by rw [k4]; exact jp_4 3 (Or.inr rfl)), fun j hj _ i hi => hf _ (by omega) i (by rw [k5 j hj]; exact jp_5 i hi), fun j hj _ i hi => hf _ (by omega) i (by rw [k6 j hj]; exact jp_6 i hi)⟩
/-- a row's static numbers -/
def StW (v : Nat → Int) (M : Mem) (k o : Nat) : Prop := ∀ i : Nat, i < 627 → isSt i = true → rdI M k (o + i) = v i
/-- a slot of the history is in use -/
def LvS (M : Mem) (s : Nat) : Prop := ∃ c : Nat, 1 ≤ c ∧ (c : Int) ≤ rdI M 126 2 ∧ (rdI M 126 1 + 8 - c) % 8 = s
/-- the program's side -/
def JC (v u : Nat → Int) (M : Mem) : Prop := StC v M 7 ∧ (rdI M 0 7 = 1 → StC u M 87) ∧ ∀ s : Nat, s < 8 → LvS M s → StC v M (128 + 39 * s)
/-- the reference's side -/
def JR (v u : Nat → Int) (M : Mem) : Prop := StW v M 453 0 ∧ (rdI M 452 7 = 1 → StW u M 454 0) ∧ ∀ i : Nat, i < 8 → (i : Int) < rdI M 452 5 → StW v M 457 (627 * i)
def Inv1 (v u v' u' : Nat → Int) (M : Mem) : Prop := Inv0 M ∧ JC v u M ∧ JR v' u' M
theorem jp_07 : JP (kd0 0) ((7 : Nat) : Int) = true := by decide +kernel
theorem jp_h1 : JP (kd0 126) ((1 : Nat) : Int) = true := by decide +kernel
theorem jp_h2 : JP (kd0 126) ((2 : Nat) : Int) = true := by decide +kernel
theorem jp_r5 : JP (kd0 452) ((5 : Nat) : Int) = true := by decide +kernel
theorem jp_r7 : JP (kd0 452) ((7 : Nat) : Int) = true := by decide +kernel
theorem kr_3 : memN (kd0 453) [31, 32, 35] = true := by decide +kernel
theorem kr_4 : memN (kd0 454) [31, 32, 35] = true := by decide +kernel
theorem kr_7 : memN (kd0 457) [31, 32, 35] = true := by decide +kernel
theorem jp_row {κ i o : Nat} (hk : memN κ [31, 32, 35] = true) (hi : i < 627) (hs : isSt i = true) : JP κ ((627 * o + i : Nat) : Int) = true := by
  show (Bool.rec (inW SW9 κ ((627 * o + i : Nat) : Int)) (isSt (((627 * o + i : Nat) : Int).toNat % 627)) (memN κ [31, 32, 35]) : Bool) = true
  rw [hk, Int.toNat_natCast, Nat.mul_add_mod, Nat.mod_eq_of_lt hi]
  exact hs
theorem LvS_fr {M M' : Mem} {s : Nat} (hf : JFr M M') (h : LvS M' s) : LvS M s := by
  obtain ⟨c, h1, h2, h3⟩ := h
  rw [hf 126 (by decide) 2 jp_h2] at h2
  rw [hf 126 (by decide) 1 jp_h1] at h3
  exact ⟨c, h1, h2, h3⟩
theorem JC_fr {v u : Nat → Int} {M M' : Mem} (hf : JFr M M') (h : JC v u M) : JC v u M' := by
  obtain ⟨a, b, c⟩ := h
  refine ⟨StC_cp (KpJ_fr (by decide) hf) a, fun q => ?_, fun s hs q => ?_⟩
  · rw [hf 0 (by decide) 7 jp_07] at q
    exact StC_cp (KpJ_fr (by decide) hf) (b q)
  · exact StC_cp (KpJ_fr (W9_s hs) hf) (c s hs (LvS_fr hf q))
theorem StW_fr {v : Nat → Int} {M M' : Mem} {k o : Nat} (hk : k < 466) (hm : memN (kd0 k) [31, 32, 35] = true) (hf : JFr M M') (h : StW v M k (627 * o)) : StW v M' k (627 * o) := fun i hi hs => (hf k hk (627 * o + i) (jp_row hm hi hs)).trans (h i hi hs)
theorem JR_fr {v u : Nat → Int} {M M' : Mem} (hf : JFr M M') (h : JR v u M) : JR v u M' := by
  obtain ⟨a, b, c⟩ := h
  refine ⟨StW_fr (o := 0) (by decide) kr_3 hf a, fun q => ?_, fun i hi q => ?_⟩
  · rw [hf 452 (by decide) 7 jp_r7] at q
    exact StW_fr (o := 0) (by decide) kr_4 hf (b q)
  · rw [hf 452 (by decide) 5 jp_r5] at q
    exact StW_fr (by decide) kr_7 hf (c i hi q)
theorem hang_1 {v u v' u' : Nat → Int} : Hang kd0 PR1 (Inv1 v u v' u') := fun M M' h hf => ⟨hang_0 M M' h.1 (fun k hk i hi => hf k hk i (pr1_0 hi)), JC_fr (fun k hk i hi => hf k hk i (pr1_J hi)) h.2.1, JR_fr (fun k hk i hi => hf k hk i (pr1_J hi)) h.2.2⟩
/-! contracts that write no static place -/
noncomputable def nstR (lo n : Nat) : Bool := allN n (fun m => snot (isSt ((lo + m) % 627)))
noncomputable def dj0 (a q : Nat × Int × Int) : Bool := Bool.rec true (Bool.rec (snot (ile q.2.1 a.2.2)) true (snot (ile a.2.1 q.2.2))) (Nat.beq q.1 a.1)
noncomputable def dj1 (a : Nat × Int × Int) : Bool := Bool.rec (allL SW9 (dj0 a)) (Bool.rec false (nstR a.2.1.toNat (a.2.2 + 1 - a.2.1).toNat) (ile 0 a.2.1)) (memN a.1 [31, 32, 35])
noncomputable def wfree (ct : Ctr) : Bool := allL ct.2.2.2.1 dj1
theorem dj0_ok {a q : Nat × Int × Int} (h : dj0 a q = true) (he : q.1 = a.1) {i : Int} (a1 : a.2.1 ≤ i) (a2 : i ≤ a.2.2) (q1 : q.2.1 ≤ i) (q2 : i ≤ q.2.2) : False := by
  have h : (Bool.rec true (Bool.rec (snot (ile q.2.1 a.2.2)) true (snot (ile a.2.1 q.2.2))) (Nat.beq q.1 a.1) : Bool) = true := h
  rw [he, Nat.beq_refl] at h
  have e1 : ile q.2.1 a.2.2 = true := ile_iff.mpr (by omega)
  have e2 : ile a.2.1 q.2.2 = true := ile_iff.mpr (by omega)
  rw [e1, e2] at h
  exact absurd h (by decide)
theorem wfree_ok {ct : Ctr} (h : wfree ct = true) {κ i : Nat} (hj : JP κ (i : Int) = true) : inW ct.2.2.2.1 κ (i : Int) = false := by
  cases hb : inW ct.2.2.2.1 κ (i : Int) with
  | false => rfl
  | true =>
    exfalso
    obtain ⟨a, m1, m2, m3, m4⟩ := inW_mem hb
    have h := allL_ok h a m1
    have h : (Bool.rec (allL SW9 (dj0 a)) (Bool.rec false (nstR a.2.1.toNat (a.2.2 + 1 - a.2.1).toNat) (ile 0 a.2.1)) (memN a.1 [31, 32, 35]) : Bool) = true := h
    have hj : (Bool.rec (inW SW9 κ (i : Int)) (isSt ((i : Int).toNat % 627)) (memN κ [31, 32, 35]) : Bool) = true := hj
    rw [m2] at h
    cases hm : memN κ [31, 32, 35] with
    | false =>
      rw [hm] at h hj
      obtain ⟨q, q1, q2, q3, q4⟩ := inW_mem hj
      exact dj0_ok (allL_ok h q q1) (q2.trans m2.symm) m3 m4 q3 q4
    | true =>
      rw [hm] at h hj
      obtain ⟨h0, h⟩ := band h
      have h0 := ile_iff.mp h0
      have h1 := allN_ok h (i - a.2.1.toNat) (by omega)
      have e : a.2.1.toNat + (i - a.2.1.toNat) = i := by omega
      rw [e] at h1
      rw [Int.toNat_natCast] at hj
      have h2 := snot_t h1
      rw [show isSt (i % 627) = true from hj] at h2
      cases h2
theorem lift1 {Ev : Env9} {call : Call} {y : Nat} {ct : Ctr} {v u v' u' : Nat → Int} (h : CtrOK kd0 sh0 rt0 bd0 Inv0 Ev call y ct) (hw : wfree ct = true) : CtrOK kd0 sh0 rt0 bd0 (Inv1 v u v' u') Ev call y ct :=
  ctr_lift h (fun M g => g.1) (fun M M' _ g J _ hf _ => ⟨J, JC_fr (fun k hk i hj => hf k hk i (wfree_ok hw hj)) g.2.1, JR_fr (fun k hk i hj => hf k hk i (wfree_ok hw hj)) g.2.2⟩)
