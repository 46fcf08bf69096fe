/-! loops whose rounds are pieces: one after the other; rows copied -/
noncomputable def allN (n : Nat) (f : Nat → Bool) : Bool := Nat.rec true (fun m ih => Bool.rec false ih (f m)) n
theorem allN_ok {f : Nat → Bool} : ∀ {n : Nat}, allN n f = true → ∀ c, c < n → f c = true := by
  intro n
  induction n with
  | zero => intro _ c hc; omega
  | succ n ih =>
    intro h c hc
    obtain ⟨h1, h2⟩ := band (show (Bool.rec false (allN n f) (f n) : Bool) = true from h)
    by_cases e : c = n
    · rw [e]; exact h1
    · exact ih h2 c (by omega)
def T9 : Mem → Prop := fun _ => True
noncomputable def pr9 : Nat → Int → Bool := fun _ _ => false
section FAM
variable {kd : Nat → Nat} {sh : Nat → Sh} {rt : Nat → Nat → Nat} {bd : Nat → Int → Int × Int} {un : Nat → Bool} {Wp PR : Nat → Int → Bool} {Inv : Mem → Prop} {Ev : Env9}
theorem hang_T : Hang kd pr9 T9 := fun _ _ _ _ => trivial
noncomputable def MT9 : Nat → Option MDT := fun _ => none
noncomputable def CT9 : Nat → List Ctr := fun _ => []
theorem CS_nil {M0 : Mem} {call : Call} : CS kd sh rt bd Wp Inv M0 Ev call (xM kd sh rt bd un Wp PR MT9 CT9 0) := fun _ _ _ _ _ h => nomatch (show (none : Option (List Out)) = some _ from h)
/-- a piece, from a memory that stands for the one before -/
theorem seg1 (hu : ∀ κ v, un κ = true → bd κ v = bd κ 0) (hI : Hang kd PR Inv) {MT : Nat → Option MDT} {CT : Nat → List Ctr} {D : Nat} {call : Call} {L : List AV} {M : Mem} (hC : CS kd sh rt bd Wp Inv M Ev call (xM kd sh rt bd un Wp PR MT CT D)) {md : MDT} {d : Nat} {ct : TrT Blk d} (hmd : MdC md d ct) {sts : List (Nat × List SPt)} {posts : List Pst} {C F b f : Nat} {p : SPt} {P : Res → Prop} (h : xseg kd sh rt bd un Wp PR MT CT D md sts posts C b p = true) (hf : C + F ≤ f) (hQ : SpOK kd p L M) (hT : TI kd sh rt bd M) (hInv : Inv M)
    (hst : ∀ q ∈ sts, ∀ p' ∈ q.2, ∀ f', F ≤ f' → ∀ (L' : List AV) (M' : Mem), SpOK kd p' L' M' → GM kd sh rt bd Wp Inv M M' → OKo (runF call d ct f' q.1 Ev 466 0 L' [] M') P)
    (hP : ∀ r : Res, r.2.1 = Ev → r.2.2.2.2.2.2.1 = 466 → GM kd sh rt bd Wp Inv M r.2.2.2.2.2.1 → (∃ q ∈ posts, pOK kd q r) → P r) : OKo (runF call d ct f b Ev 466 0 L [] M) P :=
  xseg_ok (M0 := M) hu hI hC hmd h (fun q h1 p' h2 f' hf' L' M' h3 h4 => hst q h1 p' h2 f' hf' L' M' h3 h4) hP f hf L M hQ ⟨hT, hInv, fun _ _ _ _ => rfl⟩
theorem fam_ok (hu : ∀ κ v, un κ = true → bd κ v = bd κ 0) {call : Call} {md : MDT} {d : Nat} {ct : TrT Blk d} (hmd : MdC md d ct) {N C F b : Nat} {S : Nat → SPt} {RL : Nat → List Rl9} {W : Nat → Nat → Int → Bool} {P : Res → Prop} {Hist : Nat → Mem → Prop}
    (hseg : ∀ c, c < N → xsegR kd sh rt bd un (W c) pr9 MT9 CT9 0 md [(b, [(S (c + 1), RL c)])] [] C b (S c) = true)
    (hH : ∀ c, c < N → ∀ M M', Hist c M → TI kd sh rt bd M' → Fr kd (W c) M M' → PrFa kd [] (S (c + 1)).2.1 M' → (∀ e ∈ RL c, rdI M' e.1.1 e.1.2 = rdI M e.2.1.1 e.2.1.2 + e.2.2) → Hist (c + 1) M')
    (hN : ∀ f, F ≤ f → ∀ (L : List AV) (M : Mem), SpOK kd (S N) L M → Hist N M → TI kd sh rt bd M → OKo (runF call d ct f b Ev 466 0 L [] M) P) : ∀ (m c f : Nat), c + m = N → m * C + F ≤ f → ∀ (L : List AV) (M : Mem), SpOK kd (S c) L M → Hist c M → TI kd sh rt bd M → OKo (runF call d ct f b Ev 466 0 L [] M) P := by
  intro m
  induction m with
  | zero =>
    intro c f hc hf L M h1 h2 h3
    have e : c = N := by omega
    subst e
    exact hN f (by omega) L M h1 h2 h3
  | succ m ih =>
    intro c f hc hf L M h1 h2 h3
    have e : (m + 1) * C = m * C + C := Nat.succ_mul _ _
    refine segR hu hang_T CS_nil hmd (hseg c (by omega)) (F := m * C + F) (by omega) h1 h3 trivial (fun q q1 p' q2 f' q3 L' M' q4 q6 q5 => ?_) (fun r _ _ _ q => ?_)
    · obtain rfl := List.mem_singleton.mp q1
      obtain rfl := List.mem_singleton.mp q2
      exact ih (c + 1) f' (by omega) q3 L' M' q4 (hH c (by omega) M M' h2 q5.1 q5.2.2 q4.2.1 q6) q5.1
    · obtain ⟨p, hp, _⟩ := q
      cases hp
end FAM
/-- a fact, a sum of known places -/
theorem fact_at {kd : Nat → Nat} {l : List Fct} {M : Mem} (h : PrFa kd [] l M) {c i : Nat} {lo hi : Int} (hm : ((.inl c, (0, 0, (i : Int))), lo, hi) ∈ l) : lo ≤ rdI M c i ∧ rdI M c i ≤ hi := by
  obtain ⟨k, j, ⟨h1, h2⟩, h3⟩ := h _ hm
  have e1 : k = c := h1.2
  have e2 : (0 : Int) + (i : Int) = (j : Int) ∨ (i : Int) = (j : Int) := by
    have h2 : yev [] (0, 0, (i : Int)) = some (j : Int) := h2
    rw [yev_c] at h2
    exact Or.inr (Option.some.inj h2)
  have e3 : i = j := by omega
  rw [← e1, e3]
  exact h3
theorem fact_of {kd : Nat → Nat} {M : Mem} {c i : Nat} {lo hi : Int} (hc : c < 466) (h : lo ≤ rdI M c i ∧ rdI M c i ≤ hi) : ∃ k j : Nat, Pl kd [] (.inl c, (0, 0, (i : Int))) k j ∧ lo ≤ rdI M k j ∧ rdI M k j ≤ hi :=
  ⟨c, i, ⟨⟨hc, rfl⟩, yev_c⟩, h⟩
theorem sum_at {kd : Nat → Nat} {l : List Sct} {M : Mem} (h : PrSu kd [] l M) {c i c' i' : Nat} {s lo hi : Int} (hm : ((.inl c, (0, 0, (i : Int))), (.inl c', (0, 0, (i' : Int))), s, lo, hi) ∈ l) : lo ≤ rdI M c i + s * rdI M c' i' ∧ rdI M c i + s * rdI M c' i' ≤ hi := by
  obtain ⟨k, j, k', j', ⟨h1, h2⟩, ⟨h3, h4⟩, h5⟩ := h _ hm
  have e1 : k = c := h1.2
  have e2 : k' = c' := h3.2
  have e3 : i = j := by
    have h2 : yev [] (0, 0, (i : Int)) = some (j : Int) := h2
    rw [yev_c] at h2
    have := Option.some.inj h2
    omega
  have e4 : i' = j' := by
    have h4 : yev [] (0, 0, (i' : Int)) = some (j' : Int) := h4
    rw [yev_c] at h4
    have := Option.some.inj h4
    omega
  rw [← e1, ← e2, e3, e4]
  exact h5
/-! the reference's copies -/
/-- this many numbers stand there as they stood here; all else is as it was -/
def CpR (a a0 b b0 N : Nat) (M M' : Mem) : Prop := (∀ j, j < N → rdI M' b (b0 + j) = rdI M a (a0 + j)) ∧ ∀ k : Nat, k < 466 → ∀ i : Nat, (k ≠ b ∨ i < b0 ∨ b0 + N ≤ i) → rdI M' k i = rdI M k i
noncomputable def fbd (k i : Nat) : Fct := ((.inl k, (0, 0, ((i : Nat) : Int))), bd0 (kd0 k) ((i : Nat) : Int))
noncomputable def cpFt (N a a0 c : Nat) : List Fct := Bool.rec [] [fbd a (a0 + c)] (Nat.blt c N)
noncomputable def cpSt (a a0 b b0 c : Nat) : SPt := ([some (1, (a : Int), 0), some (0, (a0 : Int), (a0 : Int)), some (1, (b : Int), 0), some (0, (b0 : Int), (b0 : Int)), some (0, (c : Int), (c : Int))], cpFt 627 a a0 c, [])
noncomputable def cpRl (a a0 b b0 c : Nat) : List Rl9 := [((b, b0 + c), (a, a0 + c), 0)]
noncomputable def cpW (b b0 c : Nat) : Nat → Int → Bool := fun κ v => Bool.rec false (ieq v ((b0 + c : Nat) : Int)) (Nat.beq κ (kd0 b))
noncomputable def mdCp : MDT := (5, nb_X11_copies, [])
noncomputable def cpA (a a0 b b0 : Nat) : Bool := xseg kd0 sh0 rt0 bd0 un0 pr9 pr9 MT9 CT9 0 mdCp [(1, [cpSt a a0 b b0 0])] [] 10 0 (spI 5 [(1, (a : Int), 0), (0, (a0 : Int), (a0 : Int)), (1, (b : Int), 0), (0, (b0 : Int), (b0 : Int))], [], [])
noncomputable def cpB (a a0 b b0 : Nat) : Bool := xseg kd0 sh0 rt0 bd0 un0 pr9 pr9 MT9 CT9 0 mdCp [] [((1, 0), (1, 0, 0), [], [])] 10 1 (cpSt a a0 b b0 627)
noncomputable def cpD (a a0 b b0 : Nat) : Bool := allN 627 (fun c => xsegR kd0 sh0 rt0 bd0 un0 (cpW b b0 c) pr9 MT9 CT9 0 mdCp [(1, [(cpSt a a0 b b0 (c + 1), cpRl a a0 b b0 c)])] [] 10 1 (cpSt a a0 b b0 c))
def cpChk (a a0 b b0 : Nat) : Prop := cpA a a0 b b0 = true ∧ cpB a a0 b b0 = true ∧ cpD a a0 b b0 = true
theorem cp_call {bo : Bo9} {R : Nat → Call} {Ev : Env9} (hR : ∀ k y E n as M, R (k + 1) y E n as M = bo y (R k) E n as M) (hmd : MDOK bo 178 mdCp) {a a0 b b0 k : Nat} (ha : a < 466) (hb : b < 466) (hk : ∀ j, j < 466 → kd0 j = kd0 b → j = b) (hab : a ≠ b ∨ b0 + 627 ≤ a0 ∨ a0 + 627 ≤ b0) (h : cpChk a a0 b b0) {vs : List AV} {M : Mem} (hv : asOK kd0 [(1, (a : Int), 0), (0, (a0 : Int), (a0 : Int)), (1, (b : Int), 0), (0, (b0 : Int), (b0 : Int))] vs) (hT : TI kd0 sh0 rt0 bd0 M) : OKo (R (k + 1) 178 Ev 466 vs M) (fun r => r.1 = (1, 0) ∧ r.2.1 = Ev ∧ r.2.2.2.2.2.2.1 = 466 ∧ TI kd0 sh0 rt0 bd0 r.2.2.2.2.2.1 ∧ CpR a a0 b b0 627 M r.2.2.2.2.2.1) := by
  obtain ⟨d, c, e1, e2⟩ := hmd
  obtain ⟨h1, h2, h3⟩ := h
  have hmC : MdC mdCp d c := e1
  rw [hR, e2]
  have e : (flatL vs).length = 4 := by rw [← lOK_len (spF_ok hv)]; rfl
  rw [e]
  have nW : ∀ {M1 M2 : Mem}, Fr kd0 pr9 M1 M2 → ∀ k : Nat, k < 466 → ∀ i : Nat, rdI M2 k i = rdI M1 k i := fun h k hk i => h k hk i rfl
  refine seg1 (C := 10) (F := 627 * 10 + 10) (f := 1000000000000) hu0 hang_T CS_nil hmC h1 (by omega) ⟨spI_ok hv, (fun q hq => by cases hq), (fun q hq => by cases hq)⟩ hT trivial (fun q q1 p' q2 f' q3 L' M' q4 q5 => ?_) (fun r _ _ _ q => by obtain ⟨p, hp, _⟩ := q; cases hp)
  obtain rfl := List.mem_singleton.mp q1
  obtain rfl := List.mem_singleton.mp q2
  have f0 := nW q5.2.2
  refine fam_ok (N := 627) (C := 10) (F := 10) (S := cpSt a a0 b b0) (RL := cpRl a a0 b b0) (W := cpW b b0) (Hist := fun n M1 => CpR a a0 b b0 n M M1) hu0 hmC (fun c hc => allN_ok h3 c hc) (fun n hn M1 M2 g1 g2 g3 _ g5 => ?_) (fun f1 hf1 L1 M1 g1 g2 g3 => ?_) 627 0 f' (by omega) (by omega) L' M' q4 ⟨fun j hj => by omega, fun k' hk' i' _ => f0 k' hk' i'⟩ q5.1
  · have hs : rdI M2 b (b0 + n) = rdI M1 a (a0 + n) := by
      have := g5 _ (List.mem_singleton.mpr rfl)
      rw [this]; exact Int.add_zero _
    have fr : ∀ k : Nat, k < 466 → ∀ i : Nat, (k ≠ b ∨ i ≠ b0 + n) → rdI M2 k i = rdI M1 k i := by
      intro k' hk' i' hi'
      refine g3 k' hk' i' ?_
      show (Bool.rec false (ieq (i' : Int) ((b0 + n : Nat) : Int)) (Nat.beq (kd0 k') (kd0 b)) : Bool) = false
      cases e3 : Nat.beq (kd0 k') (kd0 b) with
      | false => rfl
      | true =>
        have e4 := hk k' hk' (Nat.eq_of_beq_eq_true e3)
        cases e5 : ieq (i' : Int) ((b0 + n : Nat) : Int) with
        | false => rfl
        | true =>
          have := ieq_iff.mp e5
          rcases hi' with h9 | h9
          · exact absurd e4 h9
          · omega
    obtain ⟨g6, g7⟩ := g1
    refine ⟨fun j hj => ?_, fun k' hk' i' hi' => ?_⟩
    · by_cases ej : j = n
      · subst ej
        rw [hs, g7 a ha (a0 + j) (by omega)]
      · rw [fr b hb (b0 + j) (by omega)]
        exact g6 j (by omega)
    · rw [fr k' hk' i' (by omega)]
      exact g7 k' hk' i' (by omega)
  · refine seg1 (C := 10) (F := 0) hu0 hang_T CS_nil hmC h2 (by omega) g1 g3 trivial (fun q q1 => by cases q1) (fun r r1 r2 r3 q => ?_)
    obtain ⟨p, hp, hp2⟩ := q
    obtain rfl := List.mem_singleton.mp hp
    have f9 := nW r3.2.2
    exact ⟨hp2.1, r1, r2, r3.1, fun j hj => by rw [f9 b hb]; exact g2.1 j hj, fun k' hk' i' hi' => by rw [f9 k' hk']; exact g2.2 k' hk' i' hi'⟩
