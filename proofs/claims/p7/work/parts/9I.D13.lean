/-! the fair: by hand -/
theorem kd_n (k κ : Nat) (h : Nat.beq (kd0 k) κ = true) : kd0 k = κ := Nat.eq_of_beq_eq_true h
theorem kd_452 : kd0 452 = 13 := kd_n 452 13 (by decide +kernel)
theorem kd_458 : kd0 458 = 36 := kd_n 458 36 (by decide +kernel)
theorem kd_459 : kd0 459 = 37 := kd_n 459 37 (by decide +kernel)
theorem kd_460 : kd0 460 = 38 := kd_n 460 38 (by decide +kernel)
theorem kd_461 : kd0 461 = 39 := kd_n 461 39 (by decide +kernel)
theorem ty_all : (Bool.rec false (Bool.rec false (Bool.rec false (Bool.rec false (allN 16 (fun i => ytyp kd0 sh0 458 ((i : Nat) : Int))) (allN 24 (fun i => ytyp kd0 sh0 459 ((i : Nat) : Int)))) (allN 8 (fun i => ytyp kd0 sh0 460 ((i : Nat) : Int)))) (allN 96 (fun i => ytyp kd0 sh0 461 ((i : Nat) : Int)))) (allN 28 (fun i => Bool.rec true (ytyp kd0 sh0 452 ((i : Nat) : Int)) (Nat.ble 12 i && Nat.ble i 13))) : Bool) = true := by decide +kernel
noncomputable def bdAt (k i : Nat) (lo hi : Int) : Bool := Bool.rec false (Bool.rec false (ieq (bd0 (kd0 k) ((i : Nat) : Int)).2 hi) (ieq (bd0 (kd0 k) ((i : Nat) : Int)).1 lo)) (ytyp kd0 sh0 k ((i : Nat) : Int))
theorem bdAt_ok {k i : Nat} {lo hi : Int} (h : bdAt k i lo hi = true) {M : Mem} (hT : TI kd0 sh0 rt0 bd0 M) : lo ≤ rdI M k i ∧ rdI M k i ≤ hi := by
  unfold bdAt at h
  obtain ⟨h1, h⟩ := band (a := ytyp kd0 sh0 k ((i : Nat) : Int)) (b := Bool.rec false (ieq (bd0 (kd0 k) ((i : Nat) : Int)).2 hi) (ieq (bd0 (kd0 k) ((i : Nat) : Int)).1 lo)) h
  obtain ⟨h2, h3⟩ := band (a := ieq (bd0 (kd0 k) ((i : Nat) : Int)).1 lo) (b := ieq (bd0 (kd0 k) ((i : Nat) : Int)).2 hi) h
  obtain ⟨_, j, e1, e2⟩ := ytyp_ok hT h1
  have e : j = i := by omega
  subst e
  have := ieq_iff.mp h2
  have := ieq_iff.mp h3
  omega
theorem bQ : allN 16 (fun i => bdAt 458 i 0 11) = true := by decide +kernel
theorem bK : allN 24 (fun i => bdAt 459 i 0 11) = true := by decide +kernel
theorem bC : allN 8 (fun i => bdAt 460 i 0 3) = true := by decide +kernel
theorem bA : allN 96 (fun i => bdAt 461 i 0 1) = true := by decide +kernel
theorem bqf : bdAt 452 12 0 15 = true := by decide +kernel
theorem bqm : bdAt 452 13 0 200 = true := by decide +kernel
/-- places not yet applied to -/
noncomputable def cnt (M : Mem) : Nat → Nat
  | 0 => 0
  | n + 1 => cnt M n + (if rdI M 461 n = 0 then 1 else 0)
theorem cnt_eq {M M' : Mem} : ∀ {n : Nat}, (∀ j, j < n → rdI M' 461 j = rdI M 461 j) → cnt M' n = cnt M n := by
  intro n
  induction n with
  | zero => intro _; rfl
  | succ n ih =>
    intro h
    show cnt M' n + _ = cnt M n + _
    rw [ih (fun j hj => h j (by omega)), h n (by omega)]
theorem cnt_dec {M M' : Mem} {i : Nat} (h0 : rdI M 461 i = 0) (h1 : rdI M' 461 i ≠ 0) : ∀ {n : Nat}, i < n → (∀ j, j < n → j ≠ i → rdI M' 461 j = rdI M 461 j) → cnt M' n + 1 = cnt M n := by
  intro n
  induction n with
  | zero => intro h; omega
  | succ n ih =>
    intro hi h
    show cnt M' n + _ + 1 = cnt M n + _
    by_cases e : i = n
    · subst e
      rw [cnt_eq (M := M) (M' := M') (fun j hj => h j (by omega) (by omega)), if_neg h1, if_pos h0]
    · have := ih (by omega) (fun j hj hj2 => h j (by omega) hj2)
      rw [h n (by omega) (by omega)]
      omega
theorem cnt_le {M : Mem} : ∀ n, cnt M n ≤ n := by
  intro n
  induction n with
  | zero => exact Nat.le_refl _
  | succ n ih =>
    show cnt M n + _ ≤ n + 1
    by_cases e : rdI M 461 n = 0
    · rw [if_pos e]; omega
    · rw [if_neg e]; omega
def FI (M : Mem) : Prop := ∀ v : Nat, v < 8 → rdI M 453 (216 + 17 * v) + rdI M 460 v ≤ 3
/-- of those kept there, how many are still to come -/
noncomputable def rr1 (M : Mem) (v e k : Nat) : Int := if (k : Int) < rdI M 460 v ∧ (e : Int) ≤ rdI M 459 (3 * v + k) then 1 else 0
noncomputable def rr (M : Mem) (v e : Nat) : Int := rr1 M v e 0 + rr1 M v e 1 + rr1 M v e 2
theorem rr1_01 {M : Mem} {v e k : Nat} : 0 ≤ rr1 M v e k ∧ rr1 M v e k ≤ 1 := by unfold rr1; split <;> omega
theorem rr1_le {M : Mem} {v e k : Nat} : rr1 M v (e + 1) k ≤ rr1 M v e k := by
  unfold rr1
  by_cases h : (k : Int) < rdI M 460 v ∧ ((e + 1 : Nat) : Int) ≤ rdI M 459 (3 * v + k)
  · rw [if_pos h, if_pos ⟨h.1, by omega⟩]; exact Int.le_refl _
  · rw [if_neg h]; split <;> omega
theorem rr_0 {M : Mem} (hT : TI kd0 sh0 rt0 bd0 M) {v : Nat} (hv : v < 8) : rr M v 0 ≤ rdI M 460 v := by
  have h := bdAt_ok (allN_ok bC v hv) hT
  unfold rr
  have z : ∀ k : Nat, rdI M 460 v ≤ (k : Int) → rr1 M v 0 k = 0 := fun k hk => by unfold rr1; rw [if_neg (fun q => by omega)]
  have b0 := @rr1_01 M v 0 0
  have b1 := @rr1_01 M v 0 1
  have b2 := @rr1_01 M v 0 2
  have : rdI M 460 v = 0 ∨ rdI M 460 v = 1 ∨ rdI M 460 v = 2 ∨ rdI M 460 v = 3 := by omega
  rcases this with q | q | q | q
  · have := z 0 (by omega); have := z 1 (by omega); have := z 2 (by omega); omega
  · have := z 1 (by omega); have := z 2 (by omega); omega
  · have := z 2 (by omega); omega
  · omega
def RI (M : Mem) (v e : Nat) : Prop := rdI M 453 (216 + 17 * v) + rr M v e ≤ 3 ∧ ∀ v' : Nat, v' < 8 → v < v' → rdI M 453 (216 + 17 * v') + rr M v' 0 ≤ 3
theorem rr_eq {M M' : Mem} {v e : Nat} (h1 : rdI M' 460 v = rdI M 460 v) (h2 : ∀ k, k < 3 → rdI M' 459 (3 * v + k) = rdI M 459 (3 * v + k)) : rr M' v e = rr M v e := by
  unfold rr rr1
  rw [h1, h2 0 (by omega), h2 1 (by omega), h2 2 (by omega)]
theorem rr_next {M : Mem} {v e : Nat} : rr M v (e + 1) ≤ rr M v e := by
  have := @rr1_le M v e 0
  have := @rr1_le M v e 1
  have := @rr1_le M v e 2
  unfold rr
  omega
theorem rr_hit {M : Mem} {v e k : Nat} (hk : k < 3) (h1 : (k : Int) < rdI M 460 v) (h2 : rdI M 459 (3 * v + k) = (e : Int)) : rr M v (e + 1) + 1 ≤ rr M v e := by
  have hh : rr1 M v e k = 1 ∧ rr1 M v (e + 1) k = 0 := by
    unfold rr1
    exact ⟨if_pos ⟨h1, by omega⟩, if_neg (fun q => by omega)⟩
  have a0 := @rr1_le M v e 0
  have a1 := @rr1_le M v e 1
  have a2 := @rr1_le M v e 2
  unfold rr
  have : k = 0 ∨ k = 1 ∨ k = 2 := by omega
  rcases this with q | q | q <;> subst q <;> omega
theorem rr_none {M : Mem} {v e : Nat} (h : rr M v e ≤ 0) : ∀ k : Nat, k < 3 → (k : Int) < rdI M 460 v → rdI M 459 (3 * v + k) ≤ (e : Int) - 1 := by
  intro k hk h1
  have b0 := @rr1_01 M v e 0
  have b1 := @rr1_01 M v e 1
  have b2 := @rr1_01 M v e 2
  unfold rr at h
  have h9 : rr1 M v e k = 0 := by
    have : k = 0 ∨ k = 1 ∨ k = 2 := by omega
    rcases this with q | q | q <;> subst q <;> omega
  unfold rr1 at h9
  by_cases q : (k : Int) < rdI M 460 v ∧ (e : Int) ≤ rdI M 459 (3 * v + k)
  · rw [if_pos q] at h9; omega
  · have : ¬ ((e : Int) ≤ rdI M 459 (3 * v + k)) := fun w => q ⟨h1, w⟩
    omega
noncomputable def yif {α : Type} (b : Bool) (l : List α) : List α := Bool.rec [] l b
theorem yif_mem {α : Type} {b : Bool} {l : List α} {a : α} (h : a ∈ yif b l) : b = true ∧ a ∈ l := by
  cases b with
  | false => cases h
  | true => exact ⟨rfl, h⟩
theorem blt_of {a b : Nat} (h : Nat.blt a b = true) : a < b := Nat.le_of_ble_eq_true h
