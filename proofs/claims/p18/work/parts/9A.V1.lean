/-! the view machine: raw numbers by cell and place; what it gives, the machine gives -/
abbrev Vw : Type := Nat → Nat → Nat
noncomputable def rN1 (v : AV) : Nat := match v with | .inl x => x | .inr (.inr (.inl x)) => x | _ => 0
noncomputable def rNc (c : Cel) (i : Nat) : Nat := match c with
  | .inl q => rN1 (nth q.2 i)
  | .inr (.inl q) => pget q.2.2.1 i
  | .inr (.inr (.inl _)) => 0
  | .inr (.inr (.inr xs)) => rN1 (nth xs i)
noncomputable def rN (M : Mem) (k i : Nat) : Nat := rNc (tget 9 M k) i
def Vws (M : Mem) (f : Vw) : Prop := ∀ k : Nat, k < 466 → ∀ i : Nat, rN M k i = f k i
noncomputable def bdF : Nat → Int → Int × Int := fun _ _ => (-2147483648, 2147483647)
def TS (M : Mem) : Prop := TI kd0 sh0 rt0 bdF M
theorem sg_any (x : Nat) : (-2147483648 : Int) ≤ sg x ∧ sg x ≤ 2147483647 := ⟨sg_lo x, sg_hi x⟩
theorem TS_of {M : Mem} (h : TI kd0 sh0 rt0 bd0 M) : TS M := by
  intro k hk
  have h1 := h k hk
  unfold cOK at h1 ⊢
  generalize sh0 (kd0 k) = s9 at h1 ⊢
  rcases s9 with q | q | q | N
  · obtain ⟨fs, e1, e2, e3⟩ := h1
    refine ⟨fs, e1, e2, fun i ft hi => ?_⟩
    have h2 := e3 i ft hi
    match ft, h2 with
    | 0, h2 =>
      obtain ⟨x, x1, x2, -⟩ := h2
      exact ⟨x, x1, x2, sg_any x⟩
    | 1, h2 => exact h2
    | f + 2, h2 => exact h2
  · obtain ⟨p, e1, e2, -⟩ := h1
    exact ⟨p, e1, e2, fun j _ => sg_any _⟩
  · exact h1
  · exact h1
noncomputable def vup (f : Vw) (k i x : Nat) : Vw := fun k' i' => if k' = k ∧ i' = i then x else f k' i'
abbrev VR : Type := (Nat × Nat) × AV × Vw
abbrev VK : Type := Nat → List AV → List AV → Vw → Option VR
abbrev VC : Type := Nat → List AV → Vw → Option VR
def wlt (v : AV) : Prop := match v with | .inl x => x < 4294967296 | _ => True
def WL (l : List AV) : Prop := ∀ v ∈ l, wlt v
theorem wl_c {v : AV} {l : List AV} (h : WL (v :: l)) : wlt v ∧ WL l := ⟨h v List.mem_cons_self, fun w hw => h w (List.mem_cons_of_mem _ hw)⟩
theorem wl_k {v : AV} {l : List AV} (h1 : wlt v) (h2 : WL l) : WL (v :: l) := fun w hw => (List.mem_cons.mp hw).elim (fun e => by rw [e]; exact h1) (h2 w)
theorem vwl_0 : WL [] := fun v h => by cases h
theorem wl_nth : ∀ {L : List AV}, WL L → ∀ i, wlt (nth L i) := by
  intro L
  induction L with
  | nil => intro _ i; exact trivial
  | cons x t ih =>
    intro h i
    cases i with
    | zero => exact (wl_c h).1
    | succ i => exact ih (wl_c h).2 i
theorem wl_nst {v : AV} (hv : wlt v) : ∀ {L : List AV}, WL L → ∀ i, WL (nst L i v) := by
  intro L
  induction L with
  | nil => intro h i; exact h
  | cons x t ih =>
    intro h i
    cases i with
    | zero => exact wl_k hv (wl_c h).2
    | succ i => exact wl_k (wl_c h).1 (ih (wl_c h).2 i)
/-- an end that is told -/
def VOK (E : Env9) (o : OR) (r : VR) : Prop := ∃ (v : AV) (S L : List AV) (M' : Mem) (z : Nat), o = some [(r.1, E, v, S, L, M', 466, z)] ∧ (r.1.1 = 0 → v = r.2.1 ∧ wlt v) ∧ TS M' ∧ Vws M' r.2.2
def VS (E : Env9) (K : KK) (kv : VK) : Prop := ∀ (z : Nat) (L S : List AV) (f : Vw) (M : Mem) (r : VR), WL L → WL S → TS M → Vws M f → kv z L S f = some r → VOK E (K E 466 z L S M) r
/-! what stands on the stack -/
noncomputable def vS1 (S : List AV) (k : Nat → List AV → Option VR) : Option VR := match S with | .inl x :: S => k x S | _ => none
noncomputable def vS2 (S : List AV) (k : Nat → Nat → List AV → Option VR) : Option VR := match S with | .inl y :: .inl x :: S => k x y S | _ => none
noncomputable def vJ1 (S : List AV) (k : Nat → List AV → Option VR) : Option VR := match S with | .inr (.inr (.inl x)) :: S => k x S | _ => none
noncomputable def vJ2 (S : List AV) (k : Nat → Nat → List AV → Option VR) : Option VR := match S with | .inr (.inr (.inl y)) :: .inr (.inr (.inl x)) :: S => k x y S | _ => none
noncomputable def vIJ (S : List AV) (k : Nat → Nat → List AV → Option VR) : Option VR := match S with | .inl y :: .inr (.inr (.inl x)) :: S => k x y S | _ => none
noncomputable def vR1 (S : List AV) (k : Nat → List AV → Option VR) : Option VR := match S with | .inr (.inl a) :: S => k a S | _ => none
noncomputable def vIR (S : List AV) (k : Nat → Nat → List AV → Option VR) : Option VR := match S with | .inl j :: .inr (.inl a) :: S => k a j S | _ => none
noncomputable def vIIR (S : List AV) (k : Nat → Nat → Nat → List AV → Option VR) : Option VR := match S with | .inl x :: .inl j :: .inr (.inl a) :: S => k a j x S | _ => none
noncomputable def vJIR (S : List AV) (k : Nat → Nat → Nat → List AV → Option VR) : Option VR := match S with | .inr (.inr (.inl x)) :: .inl j :: .inr (.inl a) :: S => k a j x S | _ => none
noncomputable def vVR (S : List AV) (k : Nat → AV → List AV → Option VR) : Option VR := match S with | v :: .inr (.inl a) :: S => k a v S | _ => none
theorem vS1_some {S : List AV} {k : Nat → List AV → Option VR} {r : VR} (h : vS1 S k = some r) : ∃ x S', S = vI x :: S' ∧ k x S' = some r := by
  rcases S with _ | ⟨a, S⟩
  · cases h
  · rcases a with x | x | x | x | x | x | x | x
    · exact ⟨x, S, rfl, h⟩
    all_goals cases h
theorem vJ1_some {S : List AV} {k : Nat → List AV → Option VR} {r : VR} (h : vJ1 S k = some r) : ∃ x S', S = vJ x :: S' ∧ k x S' = some r := by
  rcases S with _ | ⟨a, S⟩
  · cases h
  · rcases a with x | x | x | x | x | x | x | x
    · cases h
    · cases h
    · exact ⟨x, S, rfl, h⟩
    all_goals cases h
theorem vR1_some {S : List AV} {k : Nat → List AV → Option VR} {r : VR} (h : vR1 S k = some r) : ∃ a S', S = vR a :: S' ∧ k a S' = some r := by
  rcases S with _ | ⟨a, S⟩
  · cases h
  · rcases a with x | x | x | x | x | x | x | x
    · cases h
    · exact ⟨x, S, rfl, h⟩
    all_goals cases h
theorem vS2_some {S : List AV} {k : Nat → Nat → List AV → Option VR} {r : VR} (h : vS2 S k = some r) : ∃ x y S', S = vI y :: vI x :: S' ∧ k x y S' = some r := by
  rcases S with _ | ⟨a, S⟩
  · cases h
  · rcases S with _ | ⟨b, S⟩
    · rcases a with x | x | x | x | x | x | x | x <;> cases h
    · rcases a with x | x | x | x | x | x | x | x
      · rcases b with y | y | y | y | y | y | y | y
        · exact ⟨y, x, S, rfl, h⟩
        all_goals cases h
      all_goals cases h
theorem vJ2_some {S : List AV} {k : Nat → Nat → List AV → Option VR} {r : VR} (h : vJ2 S k = some r) : ∃ x y S', S = vJ y :: vJ x :: S' ∧ k x y S' = some r := by
  rcases S with _ | ⟨a, S⟩
  · cases h
  · rcases S with _ | ⟨b, S⟩
    · rcases a with x | x | x | x | x | x | x | x <;> cases h
    · rcases a with x | x | x | x | x | x | x | x
      · cases h
      · cases h
      · rcases b with y | y | y | y | y | y | y | y
        · cases h
        · cases h
        · exact ⟨y, x, S, rfl, h⟩
        all_goals cases h
      all_goals cases h
theorem vIJ_some {S : List AV} {k : Nat → Nat → List AV → Option VR} {r : VR} (h : vIJ S k = some r) : ∃ x y S', S = vI y :: vJ x :: S' ∧ k x y S' = some r := by
  rcases S with _ | ⟨a, S⟩
  · cases h
  · rcases S with _ | ⟨b, S⟩
    · rcases a with x | x | x | x | x | x | x | x <;> cases h
    · rcases a with x | x | x | x | x | x | x | x
      · rcases b with y | y | y | y | y | y | y | y
        · cases h
        · cases h
        · exact ⟨y, x, S, rfl, h⟩
        all_goals cases h
      all_goals cases h
theorem vIR_some {S : List AV} {k : Nat → Nat → List AV → Option VR} {r : VR} (h : vIR S k = some r) : ∃ a j S', S = vI j :: vR a :: S' ∧ k a j S' = some r := by
  rcases S with _ | ⟨a, S⟩
  · cases h
  · rcases S with _ | ⟨b, S⟩
    · rcases a with x | x | x | x | x | x | x | x <;> cases h
    · rcases a with x | x | x | x | x | x | x | x
      · rcases b with y | y | y | y | y | y | y | y
        · cases h
        · exact ⟨y, x, S, rfl, h⟩
        all_goals cases h
      all_goals cases h
theorem vVR_some {S : List AV} {k : Nat → AV → List AV → Option VR} {r : VR} (h : vVR S k = some r) : ∃ a v S', S = v :: vR a :: S' ∧ k a v S' = some r := by
  rcases S with _ | ⟨a, S⟩
  · cases h
  · rcases S with _ | ⟨b, S⟩
    · cases h
    · rcases b with y | y | y | y | y | y | y | y
      · cases h
      · exact ⟨y, a, S, rfl, h⟩
      all_goals cases h
theorem vIIR_some {S : List AV} {k : Nat → Nat → Nat → List AV → Option VR} {r : VR} (h : vIIR S k = some r) : ∃ a j x S', S = vI x :: vI j :: vR a :: S' ∧ k a j x S' = some r := by
  rcases S with _ | ⟨v, S⟩
  · cases h
  · rcases v with x | x | x | x | x | x | x | x
    · obtain ⟨a, j, S', e1, e2⟩ := vIR_some (S := S) (k := fun a j S => k a j x S) (r := r) (by
        rcases S with _ | ⟨b, S⟩
        · cases h
        · rcases b with y | y | y | y | y | y | y | y
          · rcases S with _ | ⟨c, S⟩
            · cases h
            · rcases c with w | w | w | w | w | w | w | w
              · cases h
              · exact h
              all_goals cases h
          all_goals cases h)
      exact ⟨a, j, x, S', by rw [e1], e2⟩
    all_goals cases h
theorem vJIR_some {S : List AV} {k : Nat → Nat → Nat → List AV → Option VR} {r : VR} (h : vJIR S k = some r) : ∃ a j x S', S = vJ x :: vI j :: vR a :: S' ∧ k a j x S' = some r := by
  rcases S with _ | ⟨v, S⟩
  · cases h
  · rcases v with x | x | x | x | x | x | x | x
    · cases h
    · cases h
    · obtain ⟨a, j, S', e1, e2⟩ := vIR_some (S := S) (k := fun a j S => k a j x S) (r := r) (by
        rcases S with _ | ⟨b, S⟩
        · cases h
        · rcases b with y | y | y | y | y | y | y | y
          · rcases S with _ | ⟨c, S⟩
            · cases h
            · rcases c with w | w | w | w | w | w | w | w
              · cases h
              · exact h
              all_goals cases h
          all_goals cases h)
      exact ⟨a, j, x, S', by rw [e1], e2⟩
    all_goals cases h
