/-! the symbolic run: states, ends, what it is for a step to be followed -/
abbrev OV : Type := List ((RK × Aff) × Aff)
abbrev SS : Type := YE × List SV × List SV × OV × Nat
abbrev Out : Type := (Nat × Nat) × YE × SV × OV × Nat
abbrev SR : Type := Option (Nat × List Out)
abbrev Sh : Type := (Nat × List Nat) ⊕ (Nat × Nat) ⊕ (Nat × Nat × Nat) ⊕ Nat
noncomputable def avI (v : AV) : Int := match v with | .inl x => sg x | .inr (.inr (.inl x)) => lsg x | _ => 0
noncomputable def avJ (v : AV) : Int := match v with | .inr (.inr (.inl x)) => lsg x | _ => 0
noncomputable def rdC (c : Cel) (i : Nat) : Int := match c with
  | .inl q => avI (nth q.2 i)
  | .inr (.inl q) => sg (pget q.2.2.1 i)
  | .inr (.inr (.inl _)) => 0
  | .inr (.inr (.inr xs)) => avJ (nth xs i)
noncomputable def rdI (M : Mem) (k i : Nat) : Int := rdC (tget 9 M k) i
noncomputable def gdS (b : Bool) (x : SR) : SR := Bool.rec none x b
theorem gdS_some {b : Bool} {x : SR} {r : Nat × List Out} (h : gdS b x = some r) : b = true ∧ x = some r := by
  cases b with
  | false => cases h
  | true => exact ⟨rfl, h⟩
noncomputable def ymg (a b : SR) : SR := match a with
  | some x => (match b with | some y => some (Nat.rec (motive := fun _ => Nat) y.1 (fun _ _ => x.1) (x.1 - y.1), x.2 ++ y.2) | none => none)
  | none => none
theorem ymg_some {a b : SR} {r : Nat × List Out} (h : ymg a b = some r) : ∃ x y, a = some x ∧ b = some y ∧ r.2 = x.2 ++ y.2 ∧ x.1 ≤ r.1 ∧ y.1 ≤ r.1 := by
  cases a with
  | none => cases h
  | some x =>
    cases b with
    | none => cases h
    | some y =>
      have h := Option.some.inj h
      refine ⟨x, y, rfl, rfl, by rw [← h], ?_, ?_⟩ <;> rw [← h] <;> cases e : x.1 - y.1 with
      | zero => show _ ≤ y.1; omega
      | succ n => show _ ≤ x.1; omega
section RUN
variable (kd : Nat → Nat) (sh : Nat → Sh) (rt : Nat → Nat → Nat) (bd : Nat → Int → Int × Int)
def fOK (k i ft : Nat) (v : AV) : Prop := match ft with
  | 0 => ∃ x, v = vI x ∧ x < 4294967296 ∧ (bd (kd k) i).1 ≤ sg x ∧ sg x ≤ (bd (kd k) i).2
  | 1 => ∃ x, v = vJ x
  | f + 2 => v = vR (rt k i) ∧ kd (rt k i) = f ∧ rt k i < 466
def cOK (k : Nat) (c : Cel) : Prop := match sh (kd k) with
  | .inl q => ∃ fs, c = cO q.1 fs ∧ fs.length = q.2.length ∧ ∀ i ft, q.2[i]? = some ft → fOK kd rt bd k i ft (nth fs i)
  | .inr (.inl q) => ∃ p, c = cI q.1 q.2 p [] ∧ q.2 ≤ 100000 ∧ ∀ j : Nat, j < q.2 → (bd (kd k) j).1 ≤ sg (pget p j) ∧ sg (pget p j) ≤ (bd (kd k) j).2
  | .inr (.inr (.inl q)) => ∃ xs, c = cQ q.1 xs ∧ xs.length = q.2.1 ∧ ∀ j : Nat, j < q.2.1 → nth xs j = vR (rt k j) ∧ kd (rt k j) = q.2.2 ∧ rt k j < 466
  | .inr (.inr (.inr N)) => ∃ xs, c = cL xs ∧ xs.length = N ∧ ∀ j : Nat, j < N → ∃ x, nth xs j = vJ x
def TI (M : Mem) : Prop := ∀ k : Nat, k < 466 → cOK kd sh rt bd k (tget 9 M k)
variable (Wp : Nat → Int → Bool)
/-- outside of what may be written all is as it was -/
def Fr (M0 M : Mem) : Prop := ∀ k : Nat, k < 466 → ∀ i : Nat, Wp (kd k) i = false → rdI M k i = rdI M0 k i
variable (Inv : Mem → Prop) (M0 : Mem) (Ev : Env9) (Zo : Nat)
def GM (M : Mem) : Prop := TI kd sh rt bd M ∧ Inv M ∧ Fr kd Wp M0 M
def ovl (G : List Int) (H : OV) (M : Mem) : Prop := ∀ h ∈ H, ∃ k i : Nat, rkc kd G h.1.1 k ∧ yev G h.1.2 = some (i : Int) ∧ yev G h.2 = some (rdI M k i)
def Sat (G : List Int) (σ : SS) (L S : List AV) (M : Mem) : Prop := yenv G σ.1 ∧ svs kd G σ.2.1 L ∧ svs kd G σ.2.2.1 S ∧ ovl kd G σ.2.2.2.1 M
def OKo (o : OR) (P : Res → Prop) : Prop := ∃ r, o = some [r] ∧ P r
/-- an end that the run told is one that is wanted -/
def OutP (B : List Int) (P : Res → Prop) (o : Out) : Prop := ∀ (G : List Int) (r : Res), B <+: G → yenv G o.2.1 → ovl kd G o.2.2.2.1 r.2.2.2.2.2.1 → GM kd sh rt bd Wp Inv M0 r.2.2.2.2.2.1 → r.1 = o.1 → r.2.1 = Ev → r.2.2.2.2.2.2.1 = 466 → (r.1.1 = 0 → sv kd G o.2.2.1 r.2.2.1) → P r
def KS (B : List Int) (c : Nat) (P : Res → Prop) (K : KK) (k : SS → SR) : Prop := ∀ (σ : SS) (c' : Nat) (os : List Out), k σ = some (c', os) → c' ≤ c → (∀ o ∈ os, OutP kd sh rt bd Wp Inv M0 Ev B P o) → ∀ (G : List Int) (L S : List AV) (M : Mem), B <+: G → Sat kd G σ L S M → GM kd sh rt bd Wp Inv M0 M → OKo (K Ev 466 (Zo + σ.2.2.2.2) L S M) P
variable {kd sh rt bd Wp Inv M0 Ev Zo}
theorem ovl_mono {G G' : List Int} (h : G <+: G') {H : OV} {M : Mem} (ho : ovl kd G H M) : ovl kd G' H M := by
  intro q hq
  obtain ⟨k, i, h1, h2, h3⟩ := ho q hq
  exact ⟨k, i, rkc_mono h h1, yev_mono h h2, yev_mono h h3⟩
/-- a branch: where it is taken, it was run -/
noncomputable def yfk (e : Option YE) (k : YE → SR) : SR := match e with | some E => k E | none => some (0, [])
/-! arithmetic -/
noncomputable def i32b (r : Option (Int × Int)) : Bool := match r with | some r => Bool.rec false (ile r.2 2147483647) (ile (-2147483648) r.1) | none => false
theorem i32b_ok {G : List Int} {E : YE} (hE : yenv G E) {q : Aff} {v : Int} (hv : yev G q = some v) (h : i32b (yrg E q) = true) : w32 v = v := by
  unfold i32b at h
  cases hr : yrg E q with
  | none => rw [hr] at h; cases h
  | some r =>
    rw [hr] at h
    obtain ⟨k1, k2⟩ := band h
    have k1 := ile_iff.mp k1
    have k2 := ile_iff.mp k2
    have q1 := yrg_ok hE hv hr
    exact w32_id (by omega) (by omega)
noncomputable def yfull (E : YE) : YE × Aff := yfresh E (-2147483648) 2147483647
/-- v, where it surely is an int, else any int -/
noncomputable def yfit (E : YE) (v : Aff) : YE × Aff := Bool.rec (yfull E) (E, v) (i32b (yrg E v))
theorem yfit_ok {G : List Int} {E : YE} (hE : yenv G E) {q : Aff} {v : Int} (hv : yev G q = some v) : ∃ G', G <+: G' ∧ yenv G' (yfit E q).1 ∧ yev G' (yfit E q).2 = some (w32 v) := by
  unfold yfit
  cases h : i32b (yrg E q) with
  | true => exact ⟨G, List.prefix_refl _, hE, by rw [i32b_ok hE hv h]; exact hv⟩
  | false =>
    obtain ⟨h1, h2⟩ := yfresh_ok hE (lo := -2147483648) (hi := 2147483647) (w32_lo v) (w32_hi v)
    exact ⟨_, List.prefix_append _ _, h1, h2⟩
/-- a ghost that is this sum -/
noncomputable def yfind (d : Int × Nat × Int × Nat) (E : YE) : Nat → Option Nat := List.rec (motive := fun _ => Nat → Option Nat) (fun _ => none) (fun e _ ih i => Bool.rec (ih (i + 1)) (some i) (Bool.rec false (Bool.rec false (Bool.rec false (Nat.beq e.2.2.2.2.2 d.2.2.2) (ieq e.2.2.2.2.1 d.2.2.1)) (Nat.beq e.2.2.2.1 d.2.1)) (ieq e.2.2.1 d.1))) E
theorem yfind_ok {d : Int × Nat × Int × Nat} : ∀ {E : YE} {s i : Nat}, yfind d E s = some i → ∃ j e, i = s + j ∧ E[j]? = some e ∧ e.2.2 = d := by
  intro E
  induction E with
  | nil => intro s i h; cases h
  | cons e E ih =>
    intro s i h
    have h : (Bool.rec (yfind d E (s + 1)) (some s) (Bool.rec false (Bool.rec false (Bool.rec false (Nat.beq e.2.2.2.2.2 d.2.2.2) (ieq e.2.2.2.2.1 d.2.2.1)) (Nat.beq e.2.2.2.1 d.2.1)) (ieq e.2.2.1 d.1)) : Option Nat) = some i := h
    cases hb : (Bool.rec false (Bool.rec false (Bool.rec false (Nat.beq e.2.2.2.2.2 d.2.2.2) (ieq e.2.2.2.2.1 d.2.2.1)) (Nat.beq e.2.2.2.1 d.2.1)) (ieq e.2.2.1 d.1) : Bool) with
    | false =>
      rw [hb] at h
      obtain ⟨j, e', h1, h2, h3⟩ := ih h
      exact ⟨j + 1, e', by omega, by rw [List.getElem?_cons_succ]; exact h2, h3⟩
    | true =>
      rw [hb] at h
      cases h
      obtain ⟨k1, hb⟩ := band hb
      obtain ⟨k2, hb⟩ := band hb
      obtain ⟨k3, k4⟩ := band hb
      have k1 := ieq_iff.mp k1
      have k2 := Nat.eq_of_beq_eq_true k2
      have k3 := ieq_iff.mp k3
      have k4 := Nat.eq_of_beq_eq_true k4
      refine ⟨0, e, rfl, rfl, ?_⟩
      obtain ⟨e1, e2, c1, g1, c2, g2⟩ := e
      obtain ⟨d1, d2, d3, d4⟩ := d
      simp at k1 k2 k3 k4
      simp [k1, k2, k3, k4]
/-- the sum of two affine values of two ghosts -/
noncomputable def ysum (E : YE) (d : Int × Nat × Int × Nat) (o : Int) : YE × Aff := match yfind d E 0 with
  | some g => yfit E (g, 1, o)
  | none => (match yrg E (d.2.1, d.1, 0), yrg E (d.2.2.2, d.2.2.1, 0) with
    | some a, some b => Bool.rec (yfull E) (E ++ [(a.1 + b.1, a.2 + b.2, d)], (ylen E, 1, o)) (i32b (some (a.1 + b.1 + o, a.2 + b.2 + o)))
    | _, _ => yfull E)
theorem ysum_ok {G : List Int} {E : YE} (hE : yenv G E) {d : Int × Nat × Int × Nat} {a b o : Int} (h1 : d.1 ≠ 0) (h2 : d.2.2.1 ≠ 0) (ha : G[d.2.1]? = some a) (hb : G[d.2.2.2]? = some b) : ∃ G', G <+: G' ∧ yenv G' (ysum E d o).1 ∧ yev G' (ysum E d o).2 = some (w32 (d.1 * a + d.2.2.1 * b + o)) := by
  have any : ∃ G', G <+: G' ∧ yenv G' (yfull E).1 ∧ yev G' (yfull E).2 = some (w32 (d.1 * a + d.2.2.1 * b + o)) := by
    obtain ⟨h1, h2⟩ := yfresh_ok hE (lo := -2147483648) (hi := 2147483647) (w32_lo (d.1 * a + d.2.2.1 * b + o)) (w32_hi _)
    exact ⟨_, List.prefix_append _ _, h1, h2⟩
  have hdf : ∀ e1 e2 : Int, ydf (e1, e2, d) = true := by
    intro e1 e2
    unfold ydf
    cases e : ieq d.1 0 with
    | true => exact absurd (ieq_iff.mp e) h1
    | false => rfl
  unfold ysum
  cases hf : yfind d E 0 with
  | some g =>
    obtain ⟨j, e, q1, q2, q3⟩ := yfind_ok hf
    have q1 : g = j := by omega
    subst q1
    obtain ⟨x, k1, k2⟩ := hE.2 _ _ q2
    have hd : ydf e = true := by
      obtain ⟨e1, e2, e3⟩ := e
      have q3 : e3 = d := q3
      subst q3
      exact hdf _ _
    obtain ⟨a', b', k3, k4, k5⟩ := k2.2.2 hd
    rw [q3] at k3 k4 k5
    rw [ha] at k3
    rw [hb] at k4
    cases k3
    cases k4
    have hv : yev G (g, 1, o) = some (d.1 * a + d.2.2.1 * b + o) := by rw [yev_gx k1, k5]; simp
    exact yfit_ok hE hv
  | none =>
    show ∃ G', G <+: G' ∧ yenv G' (match yrg E (d.2.1, d.1, 0), yrg E (d.2.2.2, d.2.2.1, 0) with | some a, some b => _ | _, _ => yfull E : YE × Aff).1 ∧ yev G' (match yrg E (d.2.1, d.1, 0), yrg E (d.2.2.2, d.2.2.1, 0) with | some a, some b => _ | _, _ => yfull E : YE × Aff).2 = _
    cases ra : yrg E (d.2.1, d.1, 0) with
    | none => exact any
    | some ra' =>
      cases rb : yrg E (d.2.2.2, d.2.2.1, 0) with
      | none => exact any
      | some rb' =>
        have va : yev G (d.2.1, d.1, 0) = some (d.1 * a) := by rw [yev_gx ha]; simp
        have vb : yev G (d.2.2.2, d.2.2.1, 0) = some (d.2.2.1 * b) := by rw [yev_gx hb]; simp
        have r1 := yrg_ok hE va ra
        have r2 := yrg_ok hE vb rb
        cases hi : i32b (some (ra'.1 + rb'.1 + o, ra'.2 + rb'.2 + o)) with
        | false => simp only [hi]; exact any
        | true =>
          simp only [hi]
          obtain ⟨k1, k2⟩ := band (show (Bool.rec false (ile (ra'.2 + rb'.2 + o) 2147483647) (ile (-2147483648) (ra'.1 + rb'.1 + o)) : Bool) = true from hi)
          have k1 := ile_iff.mp k1
          have k2 := ile_iff.mp k2
          refine ⟨G ++ [d.1 * a + d.2.2.1 * b], List.prefix_append _ _, yenv_add hE ⟨show ra'.1 + rb'.1 ≤ _ by omega, show _ ≤ ra'.2 + rb'.2 by omega, fun _ => ⟨a, b, ha, hb, rfl⟩⟩, ?_⟩
          have h9 : (G ++ [d.1 * a + d.2.2.1 * b])[ylen E]? = some (d.1 * a + d.2.2.1 * b) := by rw [ylen_eq, ← hE.1]; simp
          show yev _ (ylen E, 1, o) = _
          rw [yev_gx h9, w32_id (by omega) (by omega)]
          simp
/-- x + s * y -/
noncomputable def yadd (E : YE) (s : Int) (x y : Aff) : YE × Aff :=
  Bool.rec (Bool.rec (Bool.rec (Bool.rec
      (ysum E (x.2.1, x.1, s * y.2.1, y.1) (x.2.2 + s * y.2.2))
      (ysum E (s * y.2.1, y.1, x.2.1, x.1) (x.2.2 + s * y.2.2)) (Nat.ble (y.1 + 1) x.1))
    (yfit E (x.1, x.2.1 + s * y.2.1, x.2.2 + s * y.2.2)) (Nat.beq x.1 y.1))
    (yfit E (y.1, s * y.2.1, x.2.2 + s * y.2.2)) (ieq x.2.1 0))
    (yfit E (x.1, x.2.1, x.2.2 + s * y.2.2)) (ieq y.2.1 0)
theorem yadd_ok {G : List Int} {E : YE} (hE : yenv G E) {x y : Aff} {a b s : Int} (hs : s ≠ 0) (ha : yev G x = some a) (hb : yev G y = some b) : ∃ G', G <+: G' ∧ yenv G' (yadd E s x y).1 ∧ yev G' (yadd E s x y).2 = some (w32 (a + s * b)) := by
  unfold yadd
  rcases yev_some hb with ⟨k1, k2⟩ | ⟨k1, v, k2, k3⟩
  · rw [ieq_iff.mpr k1]
    have hv : yev G (x.1, x.2.1, x.2.2 + s * y.2.2) = some (a + s * b) := by
      rw [k2]
      rcases yev_some ha with ⟨j1, j2⟩ | ⟨j1, u, j2, j3⟩
      · rw [show ((x.1, x.2.1, x.2.2 + s * y.2.2) : Aff) = (x.1, 0, x.2.2 + s * y.2.2) by rw [j1], yev_c, j2]
      · rw [yev_gx j2, j3, Int.add_assoc]
    exact yfit_ok hE hv
  · cases e1 : ieq y.2.1 0 with
    | true => exact absurd (ieq_iff.mp e1) k1
    | false =>
      rcases yev_some ha with ⟨j1, j2⟩ | ⟨j1, u, j2, j3⟩
      · rw [ieq_iff.mpr j1]
        have hv : yev G (y.1, s * y.2.1, x.2.2 + s * y.2.2) = some (a + s * b) := by
          rw [yev_gx k2, k3, j2, Int.mul_add, Int.mul_assoc]
          congr 1
          omega
        exact yfit_ok hE hv
      · cases e2 : ieq x.2.1 0 with
        | true => exact absurd (ieq_iff.mp e2) j1
        | false =>
          cases e3 : Nat.beq x.1 y.1 with
          | true =>
            have e3 := Nat.eq_of_beq_eq_true e3
            rw [e3, k2] at j2
            cases j2
            have hv : yev G (x.1, x.2.1 + s * y.2.1, x.2.2 + s * y.2.2) = some (a + s * b) := by
              rw [e3, yev_gx k2, k3, j3, Int.mul_add, Int.add_mul, Int.mul_assoc]
              congr 1
              omega
            exact yfit_ok hE hv
          | false =>
            have hsy : s * y.2.1 ≠ 0 := Int.mul_ne_zero hs k1
            have e9 : s * b = s * y.2.1 * v + s * y.2.2 := by rw [k3, Int.mul_add, Int.mul_assoc]
            cases e4 : Nat.ble (y.1 + 1) x.1 with
            | true =>
              obtain ⟨G', g1, g2, g3⟩ := ysum_ok hE (d := (s * y.2.1, y.1, x.2.1, x.1)) (o := x.2.2 + s * y.2.2) hsy j1 k2 j2
              refine ⟨G', g1, g2, ?_⟩
              rw [show a + s * b = s * y.2.1 * v + x.2.1 * u + (x.2.2 + s * y.2.2) by rw [e9, j3]; omega]
              exact g3
            | false =>
              obtain ⟨G', g1, g2, g3⟩ := ysum_ok hE (d := (x.2.1, x.1, s * y.2.1, y.1)) (o := x.2.2 + s * y.2.2) j1 hsy j2 k2
              refine ⟨G', g1, g2, ?_⟩
              rw [show a + s * b = x.2.1 * u + s * y.2.1 * v + (x.2.2 + s * y.2.2) by rw [e9, j3]; omega]
              exact g3
/-- times a known number, else any int -/
noncomputable def ymul (E : YE) (x y : Aff) : YE × Aff :=
  Bool.rec (Bool.rec (yfull E) (yfit E (y.1, x.2.2 * y.2.1, x.2.2 * y.2.2)) (ieq x.2.1 0)) (yfit E (x.1, y.2.2 * x.2.1, y.2.2 * x.2.2)) (ieq y.2.1 0)
theorem yscale {G : List Int} {x : Aff} {a c : Int} (ha : yev G x = some a) : yev G (x.1, c * x.2.1, c * x.2.2) = some (c * a) := by
  rcases yev_some ha with ⟨j1, j2⟩ | ⟨j1, u, j2, j3⟩
  · rw [show ((x.1, c * x.2.1, c * x.2.2) : Aff) = (x.1, 0, c * x.2.2) by rw [j1, Int.mul_zero], yev_c, j2]
  · rw [yev_gx j2, j3, Int.mul_add, Int.mul_assoc]
theorem ymul_ok {G : List Int} {E : YE} (hE : yenv G E) {x y : Aff} {a b : Int} (ha : yev G x = some a) (hb : yev G y = some b) : ∃ G', G <+: G' ∧ yenv G' (ymul E x y).1 ∧ yev G' (ymul E x y).2 = some (w32 (a * b)) := by
  unfold ymul
  cases e1 : ieq y.2.1 0 with
  | true =>
    have e1 := ieq_iff.mp e1
    rcases yev_some hb with ⟨k1, k2⟩ | ⟨k1, _⟩
    · rw [show a * b = y.2.2 * a by rw [k2, Int.mul_comm]]
      exact yfit_ok hE (yscale ha)
    · exact absurd e1 k1
  | false =>
    cases e2 : ieq x.2.1 0 with
    | true =>
      have e2 := ieq_iff.mp e2
      rcases yev_some ha with ⟨k1, k2⟩ | ⟨k1, _⟩
      · rw [show a * b = x.2.2 * b by rw [k2]]
        exact yfit_ok hE (yscale hb)
      · exact absurd e2 k1
    | false =>
      obtain ⟨h1, h2⟩ := yfresh_ok hE (lo := -2147483648) (hi := 2147483647) (w32_lo (a * b)) (w32_hi _)
      exact ⟨_, List.prefix_append _ _, h1, h2⟩
end RUN
