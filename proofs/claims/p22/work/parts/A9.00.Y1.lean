/-! money: sums over the echoes and the valleys; what moves keeps the balance (for p47; draft) -/
noncomputable def smN (g : Nat → Nat) (n : Nat) : Nat := Nat.rec 0 (fun i ih => ih + g i) n
theorem smN_s {g : Nat → Nat} {n : Nat} : smN g (n + 1) = smN g n + g n := rfl
theorem smN_eq {g h : Nat → Nat} : ∀ n : Nat, (∀ i, i < n → h i = g i) → smN h n = smN g n := by
  intro n
  induction n with
  | zero => intro _; rfl
  | succ n ih =>
    intro e
    rw [smN_s, smN_s, ih (fun i hi => e i (by omega)), e n (by omega)]
theorem smN_up {g h : Nat → Nat} {j : Nat} : ∀ n : Nat, j < n → (∀ i, i < n → i ≠ j → h i = g i) → smN h n + g j = smN g n + h j := by
  intro n
  induction n with
  | zero => intro hj _; omega
  | succ n ih =>
    intro hj e
    rw [smN_s, smN_s]
    by_cases q : j = n
    · subst q
      rw [smN_eq j (fun i hi => e i (by omega) (by omega))]
      omega
    · have a := ih (by omega) (fun i hi => e i (by omega))
      have b := e n (by omega) (fun w => q w.symm)
      omega
/-- what a world's money comes to, on either side of the balance -/
noncomputable def blL (f : Vw) (A : Nat) : Nat := f A 7 + f A 8 + f A 9
noncomputable def blR (f : Vw) (A : Nat) : Nat := f A 10 + smN (fun v => f (A + 15 + 3 * v) 4) (f A 3) + smN (fun e => f (A + 3 + e) 5) (f A 2)
def Bal (f : Vw) (A : Nat) : Prop := blL f A % 4294967296 = blR f A % 4294967296
/-- a row's -/
noncomputable def rlL (f : Vw) (c o : Nat) : Nat := f c (o + 7) + f c (o + 8) + f c (o + 9)
noncomputable def rlR (f : Vw) (c o : Nat) : Nat := f c (o + 10) + smN (fun v => f c (o + 213 + 17 * v)) (f c (o + 1)) + smN (fun e => f c (o + 34 + 15 * e)) (f c o)
def BalR (f : Vw) (c o : Nat) : Prop := rlL f c o % 4294967296 = rlR f c o % 4294967296
theorem mv9 {L R L' R' x : Nat} (h : L % 4294967296 = R % 4294967296) (h1 : L' % 4294967296 = (L + x) % 4294967296) (h2 : R' % 4294967296 = (R + x) % 4294967296) : L' % 4294967296 = R' % 4294967296 := by omega
/-- replies: a valley earns -/
theorem bal_earn {f g : Vw} {A j x : Nat} (hb : Bal f A) (hj : j < f A 3) (h2 : g A 2 = f A 2) (h3 : g A 3 = f A 3) (h7 : g A 7 = f A 7) (h8 : g A 8 = (f A 8 + x) % 4294967296) (h9 : g A 9 = f A 9) (h10 : g A 10 = f A 10) (hp : g (A + 15 + 3 * j) 4 = (f (A + 15 + 3 * j) 4 + x) % 4294967296) (hp9 : ∀ v, v < f A 3 → v ≠ j → g (A + 15 + 3 * v) 4 = f (A + 15 + 3 * v) 4) (he : ∀ e, e < f A 2 → g (A + 3 + e) 5 = f (A + 3 + e) 5) : Bal g A := by
  refine mv9 (x := x) hb ?_ ?_
  · unfold blL
    rw [h7, h8, h9]
    omega
  · unfold blR
    rw [h2, h3, h10, smN_eq (f A 2) he]
    have a := smN_up (g := fun v => f (A + 15 + 3 * v) 4) (h := fun v => g (A + 15 + 3 * v) 4) (f A 3) hj hp9
    have a : smN (fun v => g (A + 15 + 3 * v) 4) (f A 3) + f (A + 15 + 3 * j) 4 = smN (fun v => f (A + 15 + 3 * v) 4) (f A 3) + g (A + 15 + 3 * j) 4 := a
    rw [hp] at a
    generalize smN (fun v => g (A + 15 + 3 * v) 4) (f A 3) = s1 at *
    generalize smN (fun v => f (A + 15 + 3 * v) 4) (f A 3) = s0 at *
    omega
/-- a valley pays an echo -/
theorem bal_pay {f g : Vw} {A j e p : Nat} (hb : Bal f A) (hj : j < f A 3) (he : e < f A 2) (h2 : g A 2 = f A 2) (h3 : g A 3 = f A 3) (h7 : g A 7 = f A 7) (h8 : g A 8 = f A 8) (h9 : g A 9 = f A 9) (h10 : g A 10 = f A 10) (hp : g (A + 15 + 3 * j) 4 = g_sub (f (A + 15 + 3 * j) 4) p) (hp9 : ∀ v, v < f A 3 → v ≠ j → g (A + 15 + 3 * v) 4 = f (A + 15 + 3 * v) 4) (hs : g (A + 3 + e) 5 = (f (A + 3 + e) 5 + p) % 4294967296) (hs9 : ∀ i, i < f A 2 → i ≠ e → g (A + 3 + i) 5 = f (A + 3 + i) 5) : Bal g A := by
  refine mv9 (x := 0) hb ?_ ?_
  · unfold blL
    rw [h7, h8, h9]
    rfl
  · unfold blR
    rw [h2, h3, h10]
    have a : smN (fun v => g (A + 15 + 3 * v) 4) (f A 3) + f (A + 15 + 3 * j) 4 = smN (fun v => f (A + 15 + 3 * v) 4) (f A 3) + g (A + 15 + 3 * j) 4 := smN_up (g := fun v => f (A + 15 + 3 * v) 4) (h := fun v => g (A + 15 + 3 * v) 4) (f A 3) hj hp9
    have b : smN (fun e => g (A + 3 + e) 5) (f A 2) + f (A + 3 + e) 5 = smN (fun e => f (A + 3 + e) 5) (f A 2) + g (A + 3 + e) 5 := smN_up (g := fun e => f (A + 3 + e) 5) (h := fun e => g (A + 3 + e) 5) (f A 2) he hs9
    have hp : g (A + 15 + 3 * j) 4 = (f (A + 15 + 3 * j) 4 + (4294967296 - p % 4294967296)) % 4294967296 := hp
    rw [hp] at a
    rw [hs] at b
    generalize smN (fun v => g (A + 15 + 3 * v) 4) (f A 3) = s1 at *
    generalize smN (fun v => f (A + 15 + 3 * v) 4) (f A 3) = s0 at *
    generalize smN (fun e => g (A + 3 + e) 5) (f A 2) = t1 at *
    generalize smN (fun e => f (A + 3 + e) 5) (f A 2) = t0 at *
    omega
theorem bal_same {f g : Vw} {A : Nat} (hb : Bal f A) (h : ∀ i, i ≤ 10 → g A i = f A i) (hp : ∀ v, v < f A 3 → g (A + 15 + 3 * v) 4 = f (A + 15 + 3 * v) 4) (hs : ∀ i, i < f A 2 → g (A + 3 + i) 5 = f (A + 3 + i) 5) : Bal g A := by
  unfold Bal blL blR
  rw [h 7 (by decide), h 8 (by decide), h 9 (by decide), h 10 (by decide), h 2 (by decide), h 3 (by decide), smN_eq (f A 3) hp, smN_eq (f A 2) hs]
  exact hb
theorem vc3_or {u w : Nat} {a b : Option VR} : vc3 u w a b b = a ∨ vc3 u w a b b = b := by
  rw [vc3_is]
  cases Nat.ble (u + 1) w with
  | true => exact Or.inl rfl
  | false =>
    cases Nat.beq u w with
    | true => exact Or.inr rfl
    | false => exact Or.inr rfl
