/-! the money's and the contracts' invariants of both sides -/
noncomputable def stTm : TrT Bool 10 := ((((((((((true, true), (false, false)), ((false, false), (false, true))), (((true, true), (true, false)), ((false, false), (false, false)))), ((((false, false), (false, false)), ((false, false), (false, true))), (((true, true), (true, true)), ((true, true), (false, false))))), (((((false, false), (true, false)), ((false, false), (true, true))), (((true, true), (true, true)), ((true, false), (false, false)))), ((((false, true), (false, false)), ((false, true), (true, true))), (((true, true), (true, true)), ((false, false), (false, false)))))), ((((((true, false), (false, false)), ((true, true), (true, true))), (((true, true), (true, false)), ((false, false), (false, true)))), ((((false, false), (false, true)), ((true, true), (true, true))), (((true, true), (false, false)), ((false, false), (true, false))))), (((((false, false), (true, true)), ((true, true), (true, true))), (((true, false), (false, false)), ((false, true), (false, false)))), ((((false, true), (true, true)), ((true, true), (true, true))), (((false, false), (false, false)), ((true, false), (false, false))))))), (((((((true, true), (true, true)), ((true, true), (true, false))), (((false, false), (false, true)), ((false, false), (false, true)))), ((((true, true), (true, true)), ((true, true), (false, false))), (((false, false), (true, false)), ((false, false), (true, true))))), (((((true, true), (true, true)), ((true, false), (false, false))), (((false, true), (false, false)), ((false, true), (true, true)))), ((((true, true), (true, true)), ((false, false), (false, false))), (((true, false), (false, false)), ((true, true), (true, true)))))), ((((((true, true), (true, false)), ((false, false), (false, true))), (((false, false), (false, true)), ((true, true), (true, true)))), ((((true, true), (false, false)), ((false, true), (false, false))), (((true, true), (true, true)), ((true, true), (true, true))))), (((((true, true), (true, false)), ((false, false), (true, false))), (((false, true), (true, true)), ((true, true), (true, true)))), ((((true, true), (true, true)), ((false, false), (false, true))), (((false, false), (true, true)), ((true, true), (true, true)))))))), ((((((((true, true), (true, true)), ((true, false), (false, false))), (((true, false), (false, true)), ((true, true), (true, true)))), ((((true, true), (true, true)), ((true, true), (false, false))), (((false, true), (false, false)), ((true, true), (true, true))))), (((((true, true), (true, true)), ((true, true), (true, false))), (((false, false), (true, false)), ((false, true), (true, true)))), ((((true, true), (true, true)), ((true, true), (true, true))), (((false, false), (false, true)), ((false, false), (true, true)))))), ((((((true, true), (true, true)), ((true, true), (true, true))), (((true, false), (false, false)), ((true, false), (false, true)))), ((((true, true), (true, false)), ((false, false), (false, false))), (((false, false), (false, false)), ((false, false), (false, false))))), (((((false, false), (false, false)), ((false, false), (false, false))), (((false, false), (false, false)), ((false, false), (false, false)))), ((((false, false), (false, false)), ((false, false), (false, false))), (((false, false), (false, false)), ((false, false), (false, false))))))), (((((((false, false), (false, false)), ((false, false), (false, false))), (((false, false), (false, false)), ((false, false), (false, false)))), ((((false, false), (false, false)), ((false, false), (false, false))), (((false, false), (false, false)), ((false, false), (false, false))))), (((((false, false), (false, false)), ((false, false), (false, false))), (((false, false), (false, false)), ((false, false), (false, false)))), ((((false, false), (false, false)), ((false, false), (false, false))), (((false, false), (false, false)), ((false, false), (false, false)))))), ((((((false, false), (false, false)), ((false, false), (false, false))), (((false, false), (false, false)), ((false, false), (false, false)))), ((((false, false), (false, false)), ((false, false), (false, false))), (((false, false), (false, false)), ((false, false), (false, false))))), (((((false, false), (false, false)), ((false, false), (false, false))), (((false, false), (false, false)), ((false, false), (false, false)))), ((((false, false), (false, false)), ((false, false), (false, false))), (((false, false), (false, false)), ((false, false), (false, false))))))))), (((((((((false, false), (false, false)), ((false, false), (false, false))), (((false, false), (false, false)), ((false, false), (false, false)))), ((((false, false), (false, false)), ((false, false), (false, false))), (((false, false), (false, false)), ((false, false), (false, false))))), (((((false, false), (false, false)), ((false, false), (false, false))), (((false, false), (false, false)), ((false, false), (false, false)))), ((((false, false), (false, false)), ((false, false), (false, false))), (((false, false), (false, false)), ((false, false), (false, false)))))), ((((((false, false), (false, false)), ((false, false), (false, false))), (((false, false), (false, false)), ((false, false), (false, false)))), ((((false, false), (false, false)), ((false, false), (false, false))), (((false, false), (false, false)), ((false, false), (false, false))))), (((((false, false), (false, false)), ((false, false), (false, false))), (((false, false), (false, false)), ((false, false), (false, false)))), ((((false, false), (false, false)), ((false, false), (false, false))), (((false, false), (false, false)), ((false, false), (false, false))))))), (((((((false, false), (false, false)), ((false, false), (false, false))), (((false, false), (false, false)), ((false, false), (false, false)))), ((((false, false), (false, false)), ((false, false), (false, false))), (((false, false), (false, false)), ((false, false), (false, false))))), (((((false, false), (false, false)), ((false, false), (false, false))), (((false, false), (false, false)), ((false, false), (false, false)))), ((((false, false), (false, false)), ((false, false), (false, false))), (((false, false), (false, false)), ((false, false), (false, false)))))), ((((((false, false), (false, false)), ((false, false), (false, false))), (((false, false), (false, false)), ((false, false), (false, false)))), ((((false, false), (false, false)), ((false, false), (false, false))), (((false, false), (false, false)), ((false, false), (false, false))))), (((((false, false), (false, false)), ((false, false), (false, false))), (((false, false), (false, false)), ((false, false), (false, false)))), ((((false, false), (false, false)), ((false, false), (false, false))), (((false, false), (false, false)), ((false, false), (false, false)))))))), ((((((((false, false), (false, false)), ((false, false), (false, false))), (((false, false), (false, false)), ((false, false), (false, false)))), ((((false, false), (false, false)), ((false, false), (false, false))), (((false, false), (false, false)), ((false, false), (false, false))))), (((((false, false), (false, false)), ((false, false), (false, false))), (((false, false), (false, false)), ((false, false), (false, false)))), ((((false, false), (false, false)), ((false, false), (false, false))), (((false, false), (false, false)), ((false, false), (false, false)))))), ((((((false, false), (false, false)), ((false, false), (false, false))), (((false, false), (false, false)), ((false, false), (false, false)))), ((((false, false), (false, false)), ((false, false), (false, false))), (((false, false), (false, false)), ((false, false), (false, false))))), (((((false, false), (false, false)), ((false, false), (false, false))), (((false, false), (false, false)), ((false, false), (false, false)))), ((((false, false), (false, false)), ((false, false), (false, false))), (((false, false), (false, false)), ((false, false), (false, false))))))), (((((((false, false), (false, false)), ((false, false), (false, false))), (((false, false), (false, false)), ((false, false), (false, false)))), ((((false, false), (false, false)), ((false, false), (false, false))), (((false, false), (false, false)), ((false, false), (false, false))))), (((((false, false), (false, false)), ((false, false), (false, false))), (((false, false), (false, false)), ((false, false), (false, false)))), ((((false, false), (false, false)), ((false, false), (false, false))), (((false, false), (false, false)), ((false, false), (false, false)))))), ((((((false, false), (false, false)), ((false, false), (false, false))), (((false, false), (false, false)), ((false, false), (false, false)))), ((((false, false), (false, false)), ((false, false), (false, false))), (((false, false), (false, false)), ((false, false), (false, false))))), (((((false, false), (false, false)), ((false, false), (false, false))), (((false, false), (false, false)), ((false, false), (false, false)))), ((((false, false), (false, false)), ((false, false), (false, false))), (((false, false), (false, false)), ((false, false), (false, false))))))))))
noncomputable def isStm (i : Nat) : Bool := tget 10 stTm i
noncomputable def SW9m : Wrg := [(4, 2, 3), (4, 7, 10), (5, 5, 5), (6, 4, 4), (6, 6, 6), (19, 0, 2)]
noncomputable def JPm (κ : Nat) (v : Int) : Bool := Bool.rec (inW SW9m κ v) (isStm (v.toNat % 627)) (memN κ [31, 32, 33, 34, 35])
noncomputable def PR1m (κ : Nat) (v : Int) : Bool := Bool.rec (JPm κ v) true (PR0 κ v)
theorem pr1_0m {κ : Nat} {v : Int} (h : PR0 κ v = true) : PR1m κ v = true := by
  show (Bool.rec (JPm κ v) true (PR0 κ v) : Bool) = true
  rw [h]
theorem pr1_Jm {κ : Nat} {v : Int} (h : JPm κ v = true) : PR1m κ v = true := by
  show (Bool.rec (JPm κ v) true (PR0 κ v) : Bool) = true
  rw [h]
  cases PR0 κ v <;> rfl
/-- the places of money and contracts stand as they stood -/
def JFrm (M M' : Mem) : Prop := ∀ k : Nat, k < 466 → ∀ i : Nat, JPm (kd0 k) i = true → rdI M' k i = rdI M k i
/-- the worlds but the draft -/
def W9m : List Nat := [7, 46, 87, 128, 167, 206, 245, 284, 323, 362, 401]
def WB : List Nat := [7, 87, 128, 167, 206, 245, 284, 323, 362, 401]
noncomputable def kWm (A : Nat) : Bool := Bool.rec false (Bool.rec false (allN 8 (fun j => Bool.rec false (Nat.beq (kd0 (A + 16 + 3 * j)) 19) (Nat.beq (kd0 (A + 15 + 3 * j)) 6))) (allN 12 (fun j => Nat.beq (kd0 (A + 3 + j)) 5))) (Nat.beq (kd0 A) 4)
theorem kW_allm : allL W9m kWm = true := by decide +kernel
theorem kW_okm {A : Nat} (h : A ∈ W9m) : kd0 A = 4 ∧ (∀ j, j < 12 → kd0 (A + 3 + j) = 5) ∧ (∀ j, j < 8 → kd0 (A + 15 + 3 * j) = 6) ∧ ∀ j, j < 8 → kd0 (A + 16 + 3 * j) = 19 := by
  obtain ⟨h1, h2⟩ := band (show (Bool.rec false (Bool.rec false (allN 8 (fun j => Bool.rec false (Nat.beq (kd0 (A + 16 + 3 * j)) 19) (Nat.beq (kd0 (A + 15 + 3 * j)) 6))) (allN 12 (fun j => Nat.beq (kd0 (A + 3 + j)) 5))) (Nat.beq (kd0 A) 4) : Bool) = true from allL_ok kW_allm A h)
  obtain ⟨h2, h3⟩ := band h2
  have h4 : ∀ j, j < 8 → kd0 (A + 15 + 3 * j) = 6 ∧ kd0 (A + 16 + 3 * j) = 19 := fun j hj => by
    obtain ⟨a, b⟩ := band (show (Bool.rec false (Nat.beq (kd0 (A + 16 + 3 * j)) 19) (Nat.beq (kd0 (A + 15 + 3 * j)) 6) : Bool) = true from allN_ok h3 j hj)
    exact ⟨Nat.eq_of_beq_eq_true a, Nat.eq_of_beq_eq_true b⟩
  exact ⟨Nat.eq_of_beq_eq_true h1, fun j hj => Nat.eq_of_beq_eq_true (allN_ok h2 j hj), fun j hj => (h4 j hj).1, fun j hj => (h4 j hj).2⟩
theorem W9_ltm : ∀ A ∈ W9m, A + 39 < 466 := by decide
theorem WB_9 : ∀ A ∈ WB, A ∈ W9m := by decide
theorem W9_sm {s : Nat} (h : s < 8) : 128 + 39 * s ∈ WB := by
  rcases (show s = 0 ∨ s = 1 ∨ s = 2 ∨ s = 3 ∨ s = 4 ∨ s = 5 ∨ s = 6 ∨ s = 7 by omega) with rfl | rfl | rfl | rfl | rfl | rfl | rfl | rfl <;> decide
/-- raw numbers out of what stands in memory -/
noncomputable def fZ (M : Mem) : Vw := fun k i => (rdI M k i % 4294967296).toNat
theorem fZ_eq {M M' : Mem} {k i : Nat} (h : rdI M' k i = rdI M k i) : fZ M' k i = fZ M k i := by
  show (rdI M' k i % 4294967296).toNat = (rdI M k i % 4294967296).toNat
  rw [h]
theorem fZ_rn {M : Mem} {k i : Nat} (h : rdI M k i = sg (rN M k i) ∧ rN M k i < 4294967296) : fZ M k i = rN M k i := by
  show (rdI M k i % 4294967296).toNat = rN M k i
  obtain ⟨h1, h2⟩ := h
  rw [h1]
  unfold sg bi
  omega
/-- a world: its money comes out even, its contracts are with counted echoes -/
def MB (f : Vw) (A : Nat) : Prop := f A 2 ≤ 12 ∧ f A 3 ≤ 8 ∧ Bal f A ∧ StfW f A
def MPl (A a b : Nat) : Prop := (a = A ∧ (b = 2 ∨ b = 3 ∨ b = 7 ∨ b = 8 ∨ b = 9 ∨ b = 10)) ∨ (∃ e, e < 12 ∧ a = A + 3 + e ∧ b = 5) ∨ ∃ v, v < 8 ∧ (a = A + 15 + 3 * v ∧ (b = 4 ∨ b = 6) ∨ a = A + 16 + 3 * v ∧ b < 3)
/-- what one world says, another view says of another world -/
theorem MB_mv {f g : Vw} {A B : Nat} (h0 : ∀ b, b = 2 ∨ b = 3 ∨ b = 7 ∨ b = 8 ∨ b = 9 ∨ b = 10 → g A b = f B b) (h5 : ∀ e, e < f B 2 → g (A + 3 + e) 5 = f (B + 3 + e) 5) (h4 : ∀ v, v < f B 3 → g (A + 15 + 3 * v) 4 = f (B + 15 + 3 * v) 4 ∧ g (A + 15 + 3 * v) 6 = f (B + 15 + 3 * v) 6) (h1 : ∀ v i, v < f B 3 → i < 3 → g (A + 16 + 3 * v) i = f (B + 16 + 3 * v) i) (h : MB f B) : MB g A := by
  obtain ⟨a, b, c, d⟩ := h
  have e2 := h0 2 (by omega)
  have e3 := h0 3 (by omega)
  refine ⟨by omega, by omega, ?_, ?_⟩
  · unfold Bal blL blR at c ⊢
    rw [h0 7 (by omega), h0 8 (by omega), h0 9 (by omega), h0 10 (by omega), e2, e3, smN_eq (g := fun v => f (B + 15 + 3 * v) 4) (h := fun v => g (A + 15 + 3 * v) 4) (f B 3) (fun v hv => (h4 v hv).1), smN_eq (g := fun e => f (B + 3 + e) 5) (h := fun e => g (A + 3 + e) 5) (f B 2) h5]
    exact c
  · intro v hv
    rw [e3] at hv
    obtain ⟨d1, d2⟩ := d v hv
    rw [(h4 v hv).2, e2]
    refine ⟨d1, fun i hi => ?_⟩
    rw [h1 v i hv (by omega)]
    exact d2 i hi
theorem MB_eq {f g : Vw} {A : Nat} (hq : ∀ a b, MPl A a b → g a b = f a b) (h : MB f A) : MB g A :=
  MB_mv (fun b hb => hq A b (Or.inl ⟨rfl, hb⟩)) (fun e he => hq _ 5 (Or.inr (Or.inl ⟨e, by have := h.1; omega, rfl, rfl⟩))) (fun v hv => ⟨hq _ 4 (Or.inr (Or.inr ⟨v, by have := h.2.1; omega, Or.inl ⟨rfl, Or.inl rfl⟩⟩)), hq _ 6 (Or.inr (Or.inr ⟨v, by have := h.2.1; omega, Or.inl ⟨rfl, Or.inr rfl⟩⟩))⟩) (fun v i hv hi => hq _ i (Or.inr (Or.inr ⟨v, by have := h.2.1; omega, Or.inr ⟨rfl, hi⟩⟩))) h
/-- a row: the same -/
def StfR (f : Vw) (c o : Nat) : Prop := ∀ v, v < f c (o + 1) → f c (o + 216 + 17 * v) ≤ 3 ∧ ∀ i, i < f c (o + 216 + 17 * v) → f c (o + 217 + 17 * v + i) < f c o
/-- a name: how many letters, the letters -/
def NmW (f : Vw) (c a : Nat) : Prop := 1 ≤ f c a ∧ f c a ≤ 6 ∧ ∀ k, k < f c a → 97 ≤ f c (a + 1 + k) ∧ f c (a + 1 + k) ≤ 122
def NmR (f : Vw) (c o : Nat) : Prop := (∀ j, j < f c o → NmW f c (o + (23 + 15 * j))) ∧ ∀ j, j < f c (o + 1) → NmW f c (o + (203 + 17 * j))
theorem NmW_mv {f g : Vw} {c a c' a' : Nat} (h : ∀ k, k < 7 → g c' (a' + k) = f c (a + k)) (hn : NmW f c a) : NmW g c' a' := by
  obtain ⟨h1, h2, h3⟩ := hn
  have e0 : g c' a' = f c a := h 0 (by decide)
  refine ⟨by omega, by omega, fun k hk => ?_⟩
  rw [e0] at hk
  have e := h (1 + k) (by omega)
  rw [show a' + 1 + k = a' + (1 + k) by omega, e, show a + (1 + k) = a + 1 + k by omega]
  exact h3 k hk
def MBR (f : Vw) (c o : Nat) : Prop := f c o ≤ 12 ∧ f c (o + 1) ≤ 8 ∧ BalR f c o ∧ StfR f c o ∧ NmR f c o
def MPr (i : Nat) : Prop := i ≤ 1 ∨ (7 ≤ i ∧ i ≤ 10) ∨ (∃ e, e < 12 ∧ i = 34 + 15 * e) ∨ (∃ v, v < 8 ∧ (i = 213 + 17 * v ∨ ∃ k, k < 4 ∧ i = 216 + 17 * v + k)) ∨ (∃ e k, e < 12 ∧ k < 7 ∧ i = 23 + 15 * e + k) ∨ ∃ v k, v < 8 ∧ k < 7 ∧ i = 203 + 17 * v + k
theorem MBR_mv {f g : Vw} {c o c' o' : Nat} (hq : ∀ i, i < 627 → MPr i → g c' (o' + i) = f c (o + i)) (h : MBR f c o) : MBR g c' o' := by
  obtain ⟨a, b, c9, d, nE, nV⟩ := h
  have e0 : g c' o' = f c o := hq 0 (by omega) (Or.inl (by omega))
  have e1 := hq 1 (by omega) (Or.inl (by omega))
  have e7 : ∀ i, 7 ≤ i → i ≤ 10 → g c' (o' + i) = f c (o + i) := fun i h1 h2 => hq i (by omega) (Or.inr (Or.inl ⟨h1, h2⟩))
  refine ⟨by omega, by omega, ?_, ?_, fun j hj => ?_, fun j hj => ?_⟩
  · unfold BalR rlL rlR at c9 ⊢
    rw [e7 7 (by omega) (by omega), e7 8 (by omega) (by omega), e7 9 (by omega) (by omega), e7 10 (by omega) (by omega), e0, e1, smN_eq (g := fun v => f c (o + 213 + 17 * v)) (h := fun v => g c' (o' + 213 + 17 * v)) (f c (o + 1)) (fun v hv => by
      have := hq (213 + 17 * v) (by omega) (Or.inr (Or.inr (Or.inr (Or.inl ⟨v, by omega, Or.inl rfl⟩))))
      rw [show o' + 213 + 17 * v = o' + (213 + 17 * v) by omega, show o + 213 + 17 * v = o + (213 + 17 * v) by omega]
      exact this), smN_eq (g := fun e => f c (o + 34 + 15 * e)) (h := fun e => g c' (o' + 34 + 15 * e)) (f c o) (fun e he => by
      have := hq (34 + 15 * e) (by omega) (Or.inr (Or.inr (Or.inl ⟨e, by omega, rfl⟩)))
      rw [show o' + 34 + 15 * e = o' + (34 + 15 * e) by omega, show o + 34 + 15 * e = o + (34 + 15 * e) by omega]
      exact this)]
    exact c9
  · intro v hv
    rw [e1] at hv
    obtain ⟨d1, d2⟩ := d v hv
    have s0 := hq (216 + 17 * v) (by omega) (Or.inr (Or.inr (Or.inr (Or.inl ⟨v, by omega, Or.inr ⟨0, by omega, rfl⟩⟩))))
    rw [show o' + 216 + 17 * v = o' + (216 + 17 * v) by omega, s0, show o + (216 + 17 * v) = o + 216 + 17 * v by omega, e0]
    refine ⟨d1, fun i hi => ?_⟩
    have s1 := hq (217 + 17 * v + i) (by omega) (Or.inr (Or.inr (Or.inr (Or.inl ⟨v, by omega, Or.inr ⟨1 + i, by omega, by omega⟩⟩))))
    rw [show o' + 217 + 17 * v + i = o' + (217 + 17 * v + i) by omega, s1, show o + (217 + 17 * v + i) = o + 217 + 17 * v + i by omega]
    exact d2 i hi
  · rw [e0] at hj
    exact NmW_mv (fun k hk => by
      have := hq (23 + 15 * j + k) (by omega) (Or.inr (Or.inr (Or.inr (Or.inr (Or.inl ⟨j, k, by omega, hk, rfl⟩)))))
      rw [show o' + (23 + 15 * j) + k = o' + (23 + 15 * j + k) by omega, show o + (23 + 15 * j) + k = o + (23 + 15 * j + k) by omega]
      exact this) (nE j hj)
  · rw [e1] at hj
    exact NmW_mv (fun k hk => by
      have := hq (203 + 17 * j + k) (by omega) (Or.inr (Or.inr (Or.inr (Or.inr (Or.inr ⟨j, k, by omega, hk, rfl⟩)))))
      rw [show o' + (203 + 17 * j) + k = o' + (203 + 17 * j + k) by omega, show o + (203 + 17 * j) + k = o + (203 + 17 * j + k) by omega]
      exact this) (nV j hj)
def JCm (M : Mem) : Prop := ∀ A ∈ WB, MB (fZ M) A
def JRm (M : Mem) : Prop := ∀ q ∈ rows9, MBR (fZ M) q.1 q.2
/-- the four numbers are there so that texts made for other claims fit -/
def Inv1m (_v _u _v' _u' : Nat → Int) (M : Mem) : Prop := Inv0 M ∧ JCm M ∧ JRm M
theorem jpK : allL SW9m (fun q => allN (q.2.2 + 1 - q.2.1).toNat (fun i => JPm q.1 (q.2.1 + (i : Int)))) = true := by decide +kernel
theorem jp_at {κ i : Nat} {lo hi : Int} (hm : (κ, lo, hi) ∈ SW9m) (h1 : lo ≤ (i : Int)) (h2 : (i : Int) ≤ hi) : JPm κ (i : Int) = true := by
  have h := allN_ok (allL_ok jpK _ hm) ((i : Int) - lo).toNat (by
    show ((i : Int) - lo).toNat < (hi + 1 - lo).toNat
    omega)
  have h : JPm κ (lo + (((i : Int) - lo).toNat : Int)) = true := h
  rw [show lo + (((i : Int) - lo).toNat : Int) = (i : Int) by omega] at h
  exact h
theorem jp_W {A a b : Nat} (hA : A ∈ W9m) (h : MPl A a b) : a < 466 ∧ JPm (kd0 a) (b : Int) = true := by
  obtain ⟨k4, k5, k6, k9⟩ := kW_okm hA
  have hl := W9_ltm A hA
  rcases h with ⟨rfl, hb⟩ | ⟨e, he, rfl, rfl⟩ | ⟨v, hv, ⟨rfl, hb⟩ | ⟨rfl, hb⟩⟩
  · refine ⟨by omega, ?_⟩
    rw [k4]
    by_cases q : b ≤ 3
    · exact jp_at (lo := 2) (hi := 3) (by decide) (by omega) (by omega)
    · exact jp_at (lo := 7) (hi := 10) (by decide) (by omega) (by omega)
  · refine ⟨by omega, ?_⟩
    rw [k5 e he]
    exact jp_at (lo := 5) (hi := 5) (by decide) (by omega) (by omega)
  · refine ⟨by omega, ?_⟩
    rw [k6 v hv]
    rcases hb with rfl | rfl
    · exact jp_at (lo := 4) (hi := 4) (by decide) (by omega) (by omega)
    · exact jp_at (lo := 6) (hi := 6) (by decide) (by omega) (by omega)
  · refine ⟨by omega, ?_⟩
    rw [k9 v hv]
    exact jp_at (lo := 0) (hi := 2) (by decide) (by omega) (by omega)
theorem kr9 : allL rows9 (fun q => memN (kd0 q.1) [31, 32, 33, 34, 35]) = true := by decide +kernel
theorem stK0 : allL [0, 1, 7, 8, 9, 10] isStm = true := by decide +kernel
theorem stK1 : allN 12 (fun e => isStm (34 + 15 * e)) = true := by decide +kernel
theorem stK2 : allN 8 (fun v => isStm (213 + 17 * v)) = true := by decide +kernel
theorem stK4 : allN 12 (fun e => allN 7 (fun k => isStm (23 + 15 * e + k))) = true := by decide +kernel
theorem stK5 : allN 8 (fun v => allN 7 (fun k => isStm (203 + 17 * v + k))) = true := by decide +kernel
theorem stK3 : allN 8 (fun v => allN 4 (fun k => isStm (216 + 17 * v + k))) = true := by decide +kernel
theorem isSt_of {i : Nat} (h : MPr i) : isStm i = true := by
  rcases h with q | ⟨q, r⟩ | ⟨e, he, rfl⟩ | ⟨v, hv, rfl | ⟨k, hk, rfl⟩⟩ | ⟨e, k, he, hk, rfl⟩ | ⟨v, k, hv, hk, rfl⟩
  · rcases (show i = 0 ∨ i = 1 by omega) with rfl | rfl
    · exact allL_ok stK0 0 (by decide)
    · exact allL_ok stK0 1 (by decide)
  · rcases (show i = 7 ∨ i = 8 ∨ i = 9 ∨ i = 10 by omega) with rfl | rfl | rfl | rfl
    · exact allL_ok stK0 7 (by decide)
    · exact allL_ok stK0 8 (by decide)
    · exact allL_ok stK0 9 (by decide)
    · exact allL_ok stK0 10 (by decide)
  · exact allN_ok stK1 e he
  · exact allN_ok stK2 v hv
  · exact allN_ok (allN_ok stK3 v hv) k hk
  · exact allN_ok (allN_ok stK4 e he) k hk
  · exact allN_ok (allN_ok stK5 v hv) k hk
theorem rows9_o : ∀ q ∈ rows9, ∃ o, q.2 = 627 * o := by
  intro q hq
  have h : ∀ q ∈ rows9, q.2 = 627 * (q.2 / 627) := by decide
  exact ⟨_, h q hq⟩
theorem jp_rowm {κ i o : Nat} (hk : memN κ [31, 32, 33, 34, 35] = true) (hi : i < 627) (hs : isStm i = true) : JPm κ ((627 * o + i : Nat) : Int) = true := by
  show (Bool.rec (inW SW9m κ ((627 * o + i : Nat) : Int)) (isStm (((627 * o + i : Nat) : Int).toNat % 627)) (memN κ [31, 32, 33, 34, 35]) : Bool) = true
  rw [hk, Int.toNat_natCast, Nat.mul_add_mod, Nat.mod_eq_of_lt hi]
  exact hs
theorem JC_frm {M M' : Mem} (hf : JFrm M M') (h : JCm M) : JCm M' := fun A hA => MB_eq (fun a b hp => fZ_eq (hf a (jp_W (WB_9 A hA) hp).1 b (jp_W (WB_9 A hA) hp).2)) (h A hA)
theorem JR_frm {M M' : Mem} (hf : JFrm M M') (h : JRm M) : JRm M' := fun q hq => MBR_mv (fun i hi hp => fZ_eq (by
  obtain ⟨o, ho⟩ := rows9_o q hq
  rw [ho]
  exact hf q.1 (rows9_lt q hq) _ (jp_rowm (allL_ok kr9 q hq) hi (isSt_of hp)))) (h q hq)
theorem hang_1m {v u v' u' : Nat → Int} : Hang kd0 PR1m (Inv1m v u v' u') := fun M M' h hf => ⟨hang_0 M M' h.1 (fun k hk i hi => hf k hk i (pr1_0m hi)), JC_frm (fun k hk i hi => hf k hk i (pr1_Jm hi)) h.2.1, JR_frm (fun k hk i hi => hf k hk i (pr1_Jm hi)) h.2.2⟩
/-! contracts that write no static place -/
noncomputable def nstRm (lo n : Nat) : Bool := allN n (fun m => snot (isStm ((lo + m) % 627)))
noncomputable def dj0m (a q : Nat × Int × Int) : Bool := Bool.rec true (Bool.rec (snot (ile q.2.1 a.2.2)) true (snot (ile a.2.1 q.2.2))) (Nat.beq q.1 a.1)
noncomputable def dj1m (a : Nat × Int × Int) : Bool := Bool.rec (allL SW9m (dj0m a)) (Bool.rec false (nstRm a.2.1.toNat (a.2.2 + 1 - a.2.1).toNat) (ile 0 a.2.1)) (memN a.1 [31, 32, 33, 34, 35])
noncomputable def wfreem (ct : Ctr) : Bool := allL ct.2.2.2.1 dj1m
theorem dj0_okm {a q : Nat × Int × Int} (h : dj0m a q = true) (he : q.1 = a.1) {i : Int} (a1 : a.2.1 ≤ i) (a2 : i ≤ a.2.2) (q1 : q.2.1 ≤ i) (q2 : i ≤ q.2.2) : False := by
  have h : (Bool.rec true (Bool.rec (snot (ile q.2.1 a.2.2)) true (snot (ile a.2.1 q.2.2))) (Nat.beq q.1 a.1) : Bool) = true := h
  rw [he, Nat.beq_refl] at h
  have e1 : ile q.2.1 a.2.2 = true := ile_iff.mpr (by omega)
  have e2 : ile a.2.1 q.2.2 = true := ile_iff.mpr (by omega)
  rw [e1, e2] at h
  exact absurd h (by decide)
theorem wfree_okm {ct : Ctr} (h : wfreem ct = true) {κ i : Nat} (hj : JPm κ (i : Int) = true) : inW ct.2.2.2.1 κ (i : Int) = false := by
  cases hb : inW ct.2.2.2.1 κ (i : Int) with
  | false => rfl
  | true =>
    exfalso
    obtain ⟨a, m1, m2, m3, m4⟩ := inW_mem hb
    have h := allL_ok h a m1
    have h : (Bool.rec (allL SW9m (dj0m a)) (Bool.rec false (nstRm a.2.1.toNat (a.2.2 + 1 - a.2.1).toNat) (ile 0 a.2.1)) (memN a.1 [31, 32, 33, 34, 35]) : Bool) = true := h
    have hj : (Bool.rec (inW SW9m κ (i : Int)) (isStm ((i : Int).toNat % 627)) (memN κ [31, 32, 33, 34, 35]) : Bool) = true := hj
    rw [m2] at h
    cases hm : memN κ [31, 32, 33, 34, 35] with
    | false =>
      rw [hm] at h hj
      obtain ⟨q, q1, q2, q3, q4⟩ := inW_mem hj
      exact dj0_okm (allL_ok h q q1) (q2.trans m2.symm) m3 m4 q3 q4
    | true =>
      rw [hm] at h hj
      obtain ⟨h0, h⟩ := band h
      have h0 := ile_iff.mp h0
      have h1 := allN_ok h (i - a.2.1.toNat) (by omega)
      have e : a.2.1.toNat + (i - a.2.1.toNat) = i := by omega
      rw [e] at h1
      rw [Int.toNat_natCast] at hj
      have h2 := snot_t h1
      rw [show isStm (i % 627) = true from hj] at h2
      cases h2
theorem lift1m {Ev : Env9} {call : Call} {y : Nat} {ct : Ctr} {v u v' u' : Nat → Int} (h : CtrOK kd0 sh0 rt0 bd0 Inv0 Ev call y ct) (hw : wfreem ct = true) : CtrOK kd0 sh0 rt0 bd0 (Inv1m v u v' u') Ev call y ct :=
  ctr_lift h (fun M g => g.1) (fun M M' _ g J _ hf _ => ⟨J, JC_frm (fun k hk i hj => hf k hk i (wfree_okm hw hj)) g.2.1, JR_frm (fun k hk i hj => hf k hk i (wfree_okm hw hj)) g.2.2⟩)
