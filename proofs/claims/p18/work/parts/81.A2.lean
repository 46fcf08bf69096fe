/-! what the values, memories are that the small machine works on, when all is known -/
noncomputable def sg (n : Nat) : Int := (bi n : Int) - 2147483648
noncomputable def lsg (n : Nat) : Int := ((n + 9223372036854775808) % 18446744073709551616 : Nat) - (9223372036854775808 : Int)
theorem sg_toInt (n : Nat) : (nI n).toInt = sg n := nI_int n
theorem sg_lo (n : Nat) : -2147483648 ≤ sg n := by unfold sg; omega
theorem sg_hi (n : Nat) : sg n ≤ 2147483647 := by unfold sg bi; omega
theorem sg_toN (x : Int32) : sg (toN x) = x.toInt := by rw [← sg_toInt, nI_toN]
theorem toN_lt (x : Int32) : toN x < 4294967296 := x.toUInt32.toNat_lt
theorem sg_inj {a b : Nat} (ha : a < 4294967296) (hb : b < 4294967296) (h : sg a = sg b) : a = b := by
  unfold sg bi at h
  omega
noncomputable def w32 (z : Int) : Int := (z + 2147483648) % 4294967296 - 2147483648
theorem w32_id {z : Int} (h1 : -2147483648 ≤ z) (h2 : z ≤ 2147483647) : w32 z = z := by unfold w32; omega
theorem w32_lo (z : Int) : -2147483648 ≤ w32 z := by unfold w32; omega
theorem w32_hi (z : Int) : w32 z ≤ 2147483647 := by unfold w32; omega
theorem sg_add (x y : Nat) : sg ((x + y) % 4294967296) = w32 (sg x + sg y) := by
  unfold sg w32 bi
  omega
theorem w32_bmod (z : Int) : w32 z = z.bmod 4294967296 := by
  unfold w32
  rw [Int.bmod_def]
  split <;> omega
theorem sg_sub (x y : Nat) : sg ((x + (4294967296 - y % 4294967296)) % 4294967296) = w32 (sg x - sg y) := by
  unfold sg w32 bi
  omega
theorem toI_w32 (x : Int32) : -2147483648 ≤ x.toInt ∧ x.toInt ≤ 2147483647 := by
  have h1 := sg_lo (toN x)
  have h2 := sg_hi (toN x)
  rw [sg_toN] at h1 h2
  exact ⟨h1, h2⟩
theorem sg_mul (x y : Nat) : sg (toN (nI x * nI y)) = w32 (sg x * sg y) := by
  rw [sg_toN, Int32.toInt_mul, sg_toInt, sg_toInt, w32_bmod]
theorem sg_neg (x : Nat) : sg (toN (-(nI x))) = w32 (-(sg x)) := by
  rw [sg_toN, Int32.toInt_neg, sg_toInt, w32_bmod]
theorem lsg_toInt (n : Nat) : (lN n).toInt = lsg n := by
  have h : (lN n).toInt = (BitVec.ofNat 64 n).toInt := rfl
  have h2 : (BitVec.ofNat 64 n).toInt = Int.bmod (n : Int) (2 ^ 64 : Nat) := by first | exact BitVec.toInt_ofNat' | simp [BitVec.toInt_ofNat'] | (rw [BitVec.toInt_eq_toNat_bmod]; simp)
  rw [h, h2]
  unfold lsg
  rw [Int.bmod_def]
  simp only [show ((2 ^ 64 : Nat) : Int) = 18446744073709551616 from rfl]
  split <;> omega
theorem lsg_i2l (x : Nat) : lsg (toNL (nI x).toInt64) = sg x := by
  rw [← lsg_toInt, lN_toN, ← sg_toInt]
  simp
theorem bi_lt_iff {x y : Nat} : bi x < bi y ↔ sg x < sg y := by unfold sg; omega
theorem bi_eq_iff {x y : Nat} : bi x = bi y ↔ sg x = sg y := by unfold sg; omega
/-! symbolic values: an int, a long, a known cell, some cell of a kind (its number is the ghost), what has one name, a compare not yet used, 0 anything of one place, 1 some double, 2 some float, 3 some long, 4 an int as a double, 5 one that isn't 0, 6 and 7 as a float, 8 a float that is a number -/
abbrev RK : Type := Nat ⊕ (Nat × Nat)
abbrev SV : Type := Aff ⊕ Aff ⊕ RK ⊕ Nat ⊕ (Aff × Aff) ⊕ Nat
abbrev sI (q : Aff) : SV := .inl q
abbrev sJ (q : Aff) : SV := .inr (.inl q)
abbrev sR (r : RK) : SV := .inr (.inr (.inl r))
abbrev sW (w : Nat) : SV := .inr (.inr (.inr (.inl w)))
abbrev sC (q : Aff × Aff) : SV := .inr (.inr (.inr (.inr (.inl q))))
abbrev sT (t : Nat) : SV := .inr (.inr (.inr (.inr (.inr t))))
section TYP
variable (kd : Nat → Nat)
def rkc (G : List Int) (r : RK) (k : Nat) : Prop := k < 466 ∧ match r with
  | .inl c => k = c
  | .inr q => G[q.2]? = some (k : Int) ∧ kd k = q.1
def sv (G : List Int) (a : SV) (v : AV) : Prop := match a with
  | .inl q => ∃ x, v = vI x ∧ x < 4294967296 ∧ yev G q = some (sg x)
  | .inr (.inl q) => ∃ x, v = vJ x ∧ yev G q = some (lsg x)
  | .inr (.inr (.inl r)) => ∃ k, v = vR k ∧ rkc kd G r k
  | .inr (.inr (.inr (.inl w))) => v = vW w
  | .inr (.inr (.inr (.inr (.inl q)))) => ∃ x a b, v = vI x ∧ x < 4294967296 ∧ yev G q.1 = some a ∧ yev G q.2 = some b ∧ sg x = (if a < b then -1 else if a = b then 0 else 1)
  | .inr (.inr (.inr (.inr (.inr t)))) => match t with
    | 0 => isC2 v = false
    | 1 => ∃ n, v = vD n
    | 2 => ∃ n, v = vF n
    | 3 => ∃ n, v = vJ n
    | 4 => ∃ x, v = vD (FP.i2d (nI x)).toNat
    | 5 => ∃ x, sg x ≠ 0 ∧ v = vD (FP.i2d (nI x)).toNat
    | 6 => ∃ x, v = vF (FP.i2f (nI x)).toNat
    | 7 => ∃ x, sg x ≠ 0 ∧ v = vF (FP.i2f (nI x)).toNat
    | _ => ∃ n, v = vF n ∧ (UInt32.ofNat n &&& 0x7fffffff).toNat ≤ 2139095040
def svs (G : List Int) : List SV → List AV → Prop
  | [], [] => True
  | a :: l, v :: w => sv kd G a v ∧ svs G l w
  | _, _ => False
variable {kd}
theorem rkc_mono {G G' : List Int} (h : G <+: G') {r : RK} {k : Nat} (hr : rkc kd G r k) : rkc kd G' r k := by
  obtain ⟨h0, h1⟩ := hr
  rcases r with c | q
  · exact ⟨h0, h1⟩
  · exact ⟨h0, pre_at h h1.1, h1.2⟩
theorem sv_mono {G G' : List Int} (h : G <+: G') {a : SV} {v : AV} (hv : sv kd G a v) : sv kd G' a v := by
  rcases a with q | q | r | w | q | t
  · obtain ⟨x, h1, h2, h3⟩ := hv; exact ⟨x, h1, h2, yev_mono h h3⟩
  · obtain ⟨x, h1, h3⟩ := hv; exact ⟨x, h1, yev_mono h h3⟩
  · obtain ⟨k, h1, h2⟩ := hv; exact ⟨k, h1, rkc_mono h h2⟩
  · exact hv
  · obtain ⟨x, a, b, h1, h2, h3, h4, h5⟩ := hv; exact ⟨x, a, b, h1, h2, yev_mono h h3, yev_mono h h4, h5⟩
  · exact hv
theorem svs_mono {G G' : List Int} (h : G <+: G') : ∀ {l : List SV} {w : List AV}, svs kd G l w → svs kd G' l w := by
  intro l
  induction l with
  | nil => intro w hc; cases w <;> exact hc
  | cons a l ih =>
    intro w hc
    cases w with
    | nil => exact hc
    | cons v w => exact ⟨sv_mono h hc.1, ih hc.2⟩
theorem svs_cons {G : List Int} {a : SV} {l : List SV} {w : List AV} (h : svs kd G (a :: l) w) : ∃ v w', w = v :: w' ∧ sv kd G a v ∧ svs kd G l w' := by
  cases w with
  | nil => exact h.elim
  | cons v w' => exact ⟨v, w', rfl, h.1, h.2⟩
theorem svs_len {G : List Int} : ∀ {l : List SV} {w : List AV}, svs kd G l w → l.length = w.length := by
  intro l
  induction l with
  | nil => intro w hc; cases w with
    | nil => rfl
    | cons v w => exact hc.elim
  | cons a l ih =>
    intro w hc
    obtain ⟨v, w', rfl, h1, h2⟩ := svs_cons hc
    rw [List.length_cons, List.length_cons, ih h2]
theorem svs_at {G : List Int} : ∀ {l : List SV} {w : List AV}, svs kd G l w → ∀ {i : Nat} {a : SV}, l[i]? = some a → sv kd G a (nth w i) ∧ i < w.length := by
  intro l
  induction l with
  | nil => intro w _ i a h; cases h
  | cons b l ih =>
    intro w hc i a h
    obtain ⟨v, w', rfl, h1, h2⟩ := svs_cons hc
    cases i with
    | zero => cases h; exact ⟨h1, Nat.zero_lt_succ _⟩
    | succ i =>
      obtain ⟨g1, g2⟩ := ih h2 (by rw [List.getElem?_cons_succ] at h; exact h)
      exact ⟨g1, Nat.succ_lt_succ g2⟩
theorem svs_set {G : List Int} {a : SV} {v : AV} (hv : sv kd G a v) : ∀ {l : List SV} {w : List AV}, svs kd G l w → ∀ (i : Nat), svs kd G (l.set i a) (nst w i v) := by
  intro l
  induction l with
  | nil => intro w hc i; cases w with
    | nil => exact hc
    | cons v w => exact hc.elim
  | cons b l ih =>
    intro w hc i
    obtain ⟨u, w', rfl, h1, h2⟩ := svs_cons hc
    cases i with
    | zero => exact ⟨hv, h2⟩
    | succ i => exact ⟨h1, ih h2 i⟩
end TYP
/-- the small machine's predicates, by number -/
noncomputable def fP (f : Nat) : AV → Bool := match f with | 0 => isI | 1 => isJ | 2 => isA | 3 => isD | 4 => isZ | 5 => isF | _ => isCh
noncomputable def sSm (E : YE) (n : Int) (a : SV) : Bool := match a with | .inl q => (match yrg E q with | some r => Bool.rec false (ile r.2 n) (ile 0 r.1) | none => false) | _ => false
/-- what a symbolic value can't fail at -/
noncomputable def sP (E : YE) (f : Nat) (a : SV) : Bool := match f with
  | 0 => (match a with | .inl _ => true | _ => false)
  | 1 => (match a with | .inr (.inl _) => true | .inr (.inr (.inr (.inr (.inr t)))) => Nat.beq t 3 | _ => false)
  | 2 => (match a with | .inr (.inr (.inl _)) => true | .inr (.inr (.inr (.inl w))) => Bool.rec true false (Nat.beq w 3) | _ => false)
  | 3 => (match a with | .inr (.inr (.inr (.inr (.inr t)))) => (match t with | 1 => true | 4 => true | 5 => true | _ => false) | _ => false)
  | 4 => sSm E 1 a
  | 5 => (match a with | .inr (.inr (.inr (.inr (.inr t)))) => (match t with | 0 => false | 1 => false | 3 => false | 4 => false | 5 => false | _ => true) | _ => false)
  | _ => sSm E 127 a
theorem sg_small {x n : Nat} (hx : x < 4294967296) (hn : n ≤ 2147483647) (h0 : 0 ≤ sg x) (h1 : sg x ≤ n) : x ≤ n := by
  unfold sg bi at h0 h1
  omega
theorem sg_eq {x : Nat} (h : x ≤ 2147483647) : sg x = (x : Int) := by
  unfold sg bi
  omega
theorem band {a b : Bool} (h : (Bool.rec false b a : Bool) = true) : a = true ∧ b = true := by
  cases a with
  | false => cases h
  | true => exact ⟨rfl, h⟩
theorem sP_ok {kd : Nat → Nat} {G : List Int} {E : YE} (hE : yenv G E) {f : Nat} {a : SV} {v : AV} (h : sP E f a = true) (hv : sv kd G a v) : fP f v = true := by
  have hs : ∀ (n : Nat), n ≤ 2147483647 → sSm E (n : Int) a = true → ∃ x, v = vI x ∧ x ≤ n := by
    intro n hn h
    rcases a with q | q | r | w | q | t
    · obtain ⟨x, rfl, h2, h3⟩ := hv
      have h : (match yrg E q with | some r => Bool.rec false (ile r.2 n) (ile 0 r.1) | none => false : Bool) = true := h
      cases hr : yrg E q with
      | none => rw [hr] at h; cases h
      | some r =>
        rw [hr] at h
        obtain ⟨k1, k2⟩ := band h
        have q1 := yrg_ok hE h3 hr
        have k1 := ile_iff.mp k1
        have k2 := ile_iff.mp k2
        exact ⟨x, rfl, sg_small h2 hn (by omega) (by omega)⟩
    all_goals cases h
  match f, h with
  | 0, h =>
    rcases a with q | q | r | w | q | t
    · obtain ⟨x, rfl, h2, h3⟩ := hv; rfl
    all_goals cases h
  | 1, h =>
    rcases a with q | q | r | w | q | t
    · cases h
    · obtain ⟨x, rfl, h3⟩ := hv; rfl
    · cases h
    · cases h
    · cases h
    · have ht : t = 3 := Nat.eq_of_beq_eq_true h
      subst ht
      obtain ⟨n, rfl⟩ := hv; rfl
  | 2, h =>
    rcases a with q | q | r | w | q | t
    · cases h
    · cases h
    · obtain ⟨k, rfl, h3⟩ := hv; rfl
    · have hv : v = vW w := hv
      subst hv
      exact h
    · cases h
    · cases h
  | 3, h =>
    rcases a with q | q | r | w | q | t
    · cases h
    · cases h
    · cases h
    · cases h
    · cases h
    · match t, h, hv with
      | 0, h, _ => cases h
      | 1, _, hv => obtain ⟨n, rfl⟩ := hv; rfl
      | 2, h, _ => cases h
      | 3, h, _ => cases h
      | 4, _, hv => obtain ⟨n, rfl⟩ := hv; rfl
      | 5, _, hv => obtain ⟨n, _, rfl⟩ := hv; rfl
      | t + 6, h, _ => cases h
  | 4, h =>
    obtain ⟨x, rfl, hx⟩ := hs 1 (by omega) h
    exact Nat.ble_eq_true_of_le hx
  | 5, h =>
    rcases a with q | q | r | w | q | t
    · cases h
    · cases h
    · cases h
    · cases h
    · cases h
    · match t, h, hv with
      | 0, h, _ => cases h
      | 1, h, _ => cases h
      | 2, _, hv => obtain ⟨n, rfl⟩ := hv; rfl
      | 3, h, _ => cases h
      | 4, h, _ => cases h
      | 5, h, _ => cases h
      | 6, _, hv => obtain ⟨n, rfl⟩ := hv; rfl
      | 7, _, hv => obtain ⟨n, _, rfl⟩ := hv; rfl
      | t + 8, _, hv => obtain ⟨n, rfl, _⟩ := hv; rfl
  | f + 6, h =>
    obtain ⟨x, rfl, hx⟩ := hs 127 (by omega) h
    exact Nat.ble_eq_true_of_le hx
noncomputable def sC2 (a : SV) : Bool := match a with | .inr (.inl _) => true | .inr (.inr (.inr (.inr (.inr t)))) => (match t with | 0 => false | 1 => true | 2 => false | 3 => true | 4 => true | 5 => true | _ => false) | _ => false
theorem sC2_ok {kd : Nat → Nat} {G : List Int} {a : SV} {v : AV} (hv : sv kd G a v) : isC2 v = sC2 a := by
  rcases a with q | q | r | w | q | t
  · obtain ⟨x, rfl, _⟩ := hv; rfl
  · obtain ⟨x, rfl, _⟩ := hv; rfl
  · obtain ⟨k, rfl, _⟩ := hv; rfl
  · have hv : v = vW w := hv
    subst hv; rfl
  · obtain ⟨x, _, _, rfl, _⟩ := hv; rfl
  · match t, hv with
    | 0, hv => exact hv
    | 1, hv => obtain ⟨n, rfl⟩ := hv; rfl
    | 2, hv => obtain ⟨n, rfl⟩ := hv; rfl
    | 3, hv => obtain ⟨n, rfl⟩ := hv; rfl
    | 4, hv => obtain ⟨n, rfl⟩ := hv; rfl
    | 5, hv => obtain ⟨n, _, rfl⟩ := hv; rfl
    | 6, hv => obtain ⟨n, rfl⟩ := hv; rfl
    | 7, hv => obtain ⟨n, _, rfl⟩ := hv; rfl
    | t + 8, hv => obtain ⟨n, rfl, _⟩ := hv; rfl
