/-! loops whose rounds are pieces: one after the other; rows copied -/
noncomputable def allN (n : Nat) (f : Nat → Bool) : Bool := Nat.rec true (fun m ih => Bool.rec false ih (f m)) n
theorem allN_ok {f : Nat → Bool} : ∀ {n : Nat}, allN n f = true → ∀ c, c < n → f c = true := by
  intro n
  induction n with
  | zero => intro _ c hc; omega
  | succ n ih =>
    intro h c hc
    obtain ⟨h1, h2⟩ := band (show (Bool.rec false (allN n f) (f n) : Bool) = true from h)
    by_cases e : c = n
    · rw [e]; exact h1
    · exact ih h2 c (by omega)
def T9 : Mem → Prop := fun _ => True
noncomputable def pr9 : Nat → Int → Bool := fun _ _ => false
section FAM
variable {kd : Nat → Nat} {sh : Nat → Sh} {rt : Nat → Nat → Nat} {bd : Nat → Int → Int × Int} {un : Nat → Bool} {Wp PR : Nat → Int → Bool} {Inv : Mem → Prop} {Ev : Env9}
theorem hang_T : Hang kd pr9 T9 := fun _ _ _ _ => trivial
noncomputable def MT9 : Nat → Option MDT := fun _ => none
noncomputable def CT9 : Nat → List Ctr := fun _ => []
theorem CS_nil {M0 : Mem} {call : Call} : CS kd sh rt bd Wp Inv M0 Ev call (xM kd sh rt bd un Wp PR MT9 CT9 0) := fun _ _ _ _ _ h => nomatch (show (none : Option (List Out)) = some _ from h)
/-- a piece, from a memory that stands for the one before -/
theorem seg1 (hu : ∀ κ v, un κ = true → bd κ v = bd κ 0) (hI : Hang kd PR Inv) {MT : Nat → Option MDT} {CT : Nat → List Ctr} {D : Nat} {call : Call} {L : List AV} {M : Mem} (hC : CS kd sh rt bd Wp Inv M Ev call (xM kd sh rt bd un Wp PR MT CT D)) {md : MDT} {d : Nat} {ct : TrT Blk d} (hmd : MdC md d ct) {sts : List (Nat × List SPt)} {posts : List Pst} {C F b f : Nat} {p : SPt} {P : Res → Prop} (h : xseg kd sh rt bd un Wp PR MT CT D md sts posts C b p = true) (hf : C + F ≤ f) (hQ : SpOK kd p L M) (hT : TI kd sh rt bd M) (hInv : Inv M)
    (hst : ∀ q ∈ sts, ∀ p' ∈ q.2, ∀ f', F ≤ f' → ∀ (L' : List AV) (M' : Mem), SpOK kd p' L' M' → GM kd sh rt bd Wp Inv M M' → OKo (runF call d ct f' q.1 Ev 466 0 L' [] M') P)
    (hP : ∀ r : Res, r.2.1 = Ev → r.2.2.2.2.2.2.1 = 466 → GM kd sh rt bd Wp Inv M r.2.2.2.2.2.1 → (∃ q ∈ posts, pOK kd q r) → P r) : OKo (runF call d ct f b Ev 466 0 L [] M) P :=
  xseg_ok (M0 := M) hu hI hC hmd h (fun q h1 p' h2 f' hf' L' M' h3 h4 => hst q h1 p' h2 f' hf' L' M' h3 h4) hP f hf L M hQ ⟨hT, hInv, fun _ _ _ _ => rfl⟩
theorem fam_ok (hu : ∀ κ v, un κ = true → bd κ v = bd κ 0) {call : Call} {md : MDT} {d : Nat} {ct : TrT Blk d} (hmd : MdC md d ct) {N C F b : Nat} {S : Nat → SPt} {RL : Nat → List Rl9} {W : Nat → Nat → Int → Bool} {P : Res → Prop} {Hist : Nat → Mem → Prop}
    (hseg : ∀ c, c < N → xsegR kd sh rt bd un (W c) pr9 MT9 CT9 0 md [(b, [(S (c + 1), RL c)])] [] C b (S c) = true)
    (hH : ∀ c, c < N → ∀ M M', Hist c M → TI kd sh rt bd M' → Fr kd (W c) M M' → PrFa kd [] (S (c + 1)).2.1 M' → (∀ e ∈ RL c, rdI M' e.1.1 e.1.2 = rdI M e.2.1.1 e.2.1.2 + e.2.2) → Hist (c + 1) M')
    (hN : ∀ f, F ≤ f → ∀ (L : List AV) (M : Mem), SpOK kd (S N) L M → Hist N M → TI kd sh rt bd M → OKo (runF call d ct f b Ev 466 0 L [] M) P) : ∀ (m c f : Nat), c + m = N → m * C + F ≤ f → ∀ (L : List AV) (M : Mem), SpOK kd (S c) L M → Hist c M → TI kd sh rt bd M → OKo (runF call d ct f b Ev 466 0 L [] M) P := by
  intro m
  induction m with
  | zero =>
    intro c f hc hf L M h1 h2 h3
    have e : c = N := by omega
    subst e
    exact hN f (by omega) L M h1 h2 h3
  | succ m ih =>
    intro c f hc hf L M h1 h2 h3
    have e : (m + 1) * C = m * C + C := Nat.succ_mul _ _
    refine segR hu hang_T CS_nil hmd (hseg c (by omega)) (F := m * C + F) (by omega) h1 h3 trivial (fun q q1 p' q2 f' q3 L' M' q4 q6 q5 => ?_) (fun r _ _ _ q => ?_)
    · obtain rfl := List.mem_singleton.mp q1
      obtain rfl := List.mem_singleton.mp q2
      exact ih (c + 1) f' (by omega) q3 L' M' q4 (hH c (by omega) M M' h2 q5.1 q5.2.2 q4.2.1 q6) q5.1
    · obtain ⟨p, hp, _⟩ := q
      cases hp
end FAM
/-- a fact, a sum of known places -/
theorem fact_at {kd : Nat → Nat} {l : List Fct} {M : Mem} (h : PrFa kd [] l M) {c i : Nat} {lo hi : Int} (hm : ((.inl c, (0, 0, (i : Int))), lo, hi) ∈ l) : lo ≤ rdI M c i ∧ rdI M c i ≤ hi := by
  obtain ⟨k, j, ⟨h1, h2⟩, h3⟩ := h _ hm
  have e1 : k = c := h1.2
  have e2 : (0 : Int) + (i : Int) = (j : Int) ∨ (i : Int) = (j : Int) := by
    have h2 : yev [] (0, 0, (i : Int)) = some (j : Int) := h2
    rw [yev_c] at h2
    exact Or.inr (Option.some.inj h2)
  have e3 : i = j := by omega
  rw [← e1, e3]
  exact h3
theorem fact_of {kd : Nat → Nat} {M : Mem} {c i : Nat} {lo hi : Int} (hc : c < 466) (h : lo ≤ rdI M c i ∧ rdI M c i ≤ hi) : ∃ k j : Nat, Pl kd [] (.inl c, (0, 0, (i : Int))) k j ∧ lo ≤ rdI M k j ∧ rdI M k j ≤ hi :=
  ⟨c, i, ⟨⟨hc, rfl⟩, yev_c⟩, h⟩
theorem sum_at {kd : Nat → Nat} {l : List Sct} {M : Mem} (h : PrSu kd [] l M) {c i c' i' : Nat} {s lo hi : Int} (hm : ((.inl c, (0, 0, (i : Int))), (.inl c', (0, 0, (i' : Int))), s, lo, hi) ∈ l) : lo ≤ rdI M c i + s * rdI M c' i' ∧ rdI M c i + s * rdI M c' i' ≤ hi := by
  obtain ⟨k, j, k', j', ⟨h1, h2⟩, ⟨h3, h4⟩, h5⟩ := h _ hm
  have e1 : k = c := h1.2
  have e2 : k' = c' := h3.2
  have e3 : i = j := by
    have h2 : yev [] (0, 0, (i : Int)) = some (j : Int) := h2
    rw [yev_c] at h2
    have := Option.some.inj h2
    omega
  have e4 : i' = j' := by
    have h4 : yev [] (0, 0, (i' : Int)) = some (j' : Int) := h4
    rw [yev_c] at h4
    have := Option.some.inj h4
    omega
  rw [← e1, ← e2, e3, e4]
  exact h5
/-! the reference's copies -/
/-- this many numbers stand there as they stood here; all else is as it was -/
def CpR (a a0 b b0 N : Nat) (M M' : Mem) : Prop := (∀ j, j < N → rdI M' b (b0 + j) = rdI M a (a0 + j)) ∧ ∀ k : Nat, k < 466 → ∀ i : Nat, (k ≠ b ∨ i < b0 ∨ b0 + N ≤ i) → rdI M' k i = rdI M k i
noncomputable def mdCp : MDT := (5, nb_X11_copies, [])
noncomputable def Lcp (a a0 b b0 k : Nat) : List AV := [vR a, vI a0, vR b, vI b0, vI k]
section CPH
variable {call : Call} {Ev : Env9} {d a a0 b b0 : Nat} {ct : TrT Blk d}
theorem cp_b0 (h : MdC mdCp d ct) : tget d ct 0 = ([op_push (vI 0), op_st isI 4], tm_goto 1) := h 0 _ rfl
theorem cp_b1 (h : MdC mdCp d ct) : tget d ct 1 = ([op_ld isI 4, op_push (vI 627)], tm_icmp 2 3 3) := h 1 _ rfl
theorem cp_b2 (h : MdC mdCp d ct) : tget d ct 2 = ([op_ld isA 2, op_ld isI 3, op_ld isI 4, op_add, op_ld isA 0, op_ld isI 1, op_ld isI 4, op_add, op_iald 0, op_iast, op_iinc 4 1], tm_goto 1) := h 2 _ rfl
theorem cp_b3 (h : MdC mdCp d ct) : tget d ct 3 = ([], tm_vret 0) := h 3 _ rfl
theorem cp_s0 (h : MdC mdCp d ct) {f : Nat} {M : Mem} : runF call d ct (f + 1) 0 Ev 466 0 [vR a, vI a0, vR b, vI b0, vW 3] [] M = runF call d ct f 1 Ev 466 0 (Lcp a a0 b b0 0) [] M := by
  rw [rF9 f (cp_b0 h), rBc, rBc, rBn, pun, stn, isIv, gdt, show lk2 [vR a, vI a0, vR b, vI b0, vW 3] 4 = true from rfl, gdt, gotn]
  rfl
theorem cp_s1 (h : MdC mdCp d ct) {f k : Nat} {M : Mem} (hk : k < 627) : runF call d ct (f + 1) 1 Ev 466 0 (Lcp a a0 b b0 k) [] M = runF call d ct f 2 Ev 466 0 (Lcp a a0 b b0 k) [] M := by
  have hl : sg k < sg 627 := by
    rw [sg_eq (show k ≤ 2147483647 by omega), sg_eq (show 627 ≤ 2147483647 by decide)]
    omega
  rw [rF9 f (cp_b1 h), rBc, rBc, rBn, ldn, show nth (Lcp a a0 b b0 k) 4 = vI k from rfl, isIv, gdt, pun, icn, c3_eq, if_pos (bi_lt_iff.mpr hl)]
theorem cp_s3 (h : MdC mdCp d ct) {f : Nat} {M : Mem} : runF call d ct (f + 2) 1 Ev 466 0 (Lcp a a0 b b0 627) [] M = some [((1, 0), Ev, vW 3, [], [], M, 466, 0)] := by
  rw [rF9 (f + 1) (cp_b1 h), rBc, rBc, rBn, ldn, show nth (Lcp a a0 b b0 627) 4 = vI 627 from rfl, isIv, gdt, pun, icn, c3_eq, if_neg (Nat.lt_irrefl _), if_pos rfl, rF9 f (cp_b3 h), rBn]
  rfl
theorem cp_s2 (h : MdC mdCp d ct) {f k Na p Nb p' : Nat} {M : Mem} (hA : tget 9 M a = cI 0 Na p []) (hB : tget 9 M b = cI 0 Nb p' []) (h1 : a0 + k < Na) (h2 : b0 + k < Nb) (h3 : Na ≤ 100000) (h4 : Nb ≤ 100000) (hk : k < 627) : runF call d ct (f + 1) 2 Ev 466 0 (Lcp a a0 b b0 k) [] M = runF call d ct f 1 Ev 466 0 (Lcp a a0 b b0 (k + 1)) [] (tset 9 M b (cI 0 Nb (pset p' (b0 + k) (pget p (a0 + k))) [])) := by
  rw [rF9 f (cp_b2 h), rBc, rBc, rBc, rBc, rBc, rBc, rBc, rBc, rBc, rBc, rBc, rBn,
    ldn, show nth (Lcp a a0 b b0 k) 2 = vR b from rfl, isAv, gdt, ldn, show nth (Lcp a a0 b b0 k) 3 = vI b0 from rfl, isIv, gdt, ldn, show nth (Lcp a a0 b b0 k) 4 = vI k from rfl, isIv, gdt, addn,
    ldn, show nth (Lcp a a0 b b0 k) 0 = vR a from rfl, isAv, gdt, ldn, show nth (Lcp a a0 b b0 k) 1 = vI a0 from rfl, isIv, gdt, ldn, show nth (Lcp a a0 b b0 k) 4 = vI k from rfl, isIv, gdt, addn,
    Nat.mod_eq_of_lt (show b0 + k < 4294967296 by omega), Nat.mod_eq_of_lt (show a0 + k < 4294967296 by omega), op_iald_n hA h1, op_iast_n hB h2,
    incn 4 1 k 0 _ _ _ _ (show nth (Lcp a a0 b b0 k) 4 = vI k from rfl) (show lk2 (Lcp a a0 b b0 k) 4 = true from rfl), Nat.mod_eq_of_lt (show k + 1 < 4294967296 by omega), gotn]
  rfl
end CPH
noncomputable def isRow (k N : Nat) : Bool := match sh0 (kd0 k) with | .inr (.inl q) => Bool.rec false (Nat.beq q.2 N) (Nat.beq q.1 0) | _ => false
theorem isRow_ok {k N : Nat} (h : isRow k N = true) : sh0 (kd0 k) = .inr (.inl (0, N)) := by
  unfold isRow at h
  rcases hs : sh0 (kd0 k) with q | q | q | q
  · rw [hs] at h; cases h
  · rw [hs] at h
    obtain ⟨h1, h2⟩ := band (a := Nat.beq q.1 0) (b := Nat.beq q.2 N) h
    obtain ⟨q1, q2⟩ := q
    have h1 : q1 = 0 := Nat.eq_of_beq_eq_true h1
    have h2 : q2 = N := Nat.eq_of_beq_eq_true h2
    rw [h1, h2]
  · rw [hs] at h; cases h
  · rw [hs] at h; cases h
theorem row_of {M : Mem} (hT : TI kd0 sh0 rt0 bd0 M) {k N : Nat} (hk : k < 466) (h : isRow k N = true) : ∃ p, tget 9 M k = cI 0 N p [] ∧ N ≤ 100000 ∧ ∀ j : Nat, j < N → (bd0 (kd0 k) j).1 ≤ sg (pget p j) ∧ sg (pget p j) ≤ (bd0 (kd0 k) j).2 := by
  have h1 := hT k hk
  unfold cOK at h1
  rw [isRow_ok h] at h1
  exact h1
theorem row_set {M : Mem} (hT : TI kd0 sh0 rt0 bd0 M) {k N p j x : Nat} (hk : k < 466) (h : isRow k N = true) (hM : tget 9 M k = cI 0 N p []) (hx : x < 4294967296) (hb : (bd0 (kd0 k) j).1 ≤ sg x ∧ sg x ≤ (bd0 (kd0 k) j).2) : TI kd0 sh0 rt0 bd0 (tset 9 M k (cI 0 N (pset p j x) [])) := by
  obtain ⟨p2, e1, e2, e3⟩ := row_of hT hk h
  rw [hM] at e1
  have e4 : p = p2 := by
    have := Sum.inl.inj (Sum.inr.inj e1)
    exact congrArg (fun q : Nat × Nat × Nat × List (Nat × AV) => q.2.2.1) this
  subst e4
  refine ti_set hT hk ?_
  unfold cOK
  rw [isRow_ok h]
  refine ⟨_, rfl, e2, fun i hi => ?_⟩
  rw [pget_pset]
  by_cases q : i = j
  · rw [if_pos q, Nat.mod_eq_of_lt hx, q]; exact hb
  · rw [if_neg q]; exact e3 i hi
noncomputable def bdE (k i k' i' : Nat) : Bool := Bool.rec false (ieq (bd0 (kd0 k) ((i : Nat) : Int)).2 (bd0 (kd0 k') ((i' : Nat) : Int)).2) (ieq (bd0 (kd0 k) ((i : Nat) : Int)).1 (bd0 (kd0 k') ((i' : Nat) : Int)).1)
/-- the row at a from a0 on fits the row at b from b0 on -/
def cpChk (a a0 b b0 : Nat) : Prop := ∃ Na Nb, isRow a Na = true ∧ isRow b Nb = true ∧ a0 + 627 ≤ Na ∧ b0 + 627 ≤ Nb ∧ allN 627 (fun j => bdE b (b0 + j) a (a0 + j)) = true
theorem cp_call {bo : Bo9} {R : Nat → Call} {Ev : Env9} (hR : ∀ k y E n as M, R (k + 1) y E n as M = bo y (R k) E n as M) (hmd : MDOK bo 178 mdCp) {a a0 b b0 k : Nat} (ha : a < 466) (hb : b < 466) (hab : a ≠ b ∨ b0 + 627 ≤ a0 ∨ a0 + 627 ≤ b0) (h : cpChk a a0 b b0) {vs : List AV} {M : Mem} (hv : asOK kd0 [(1, (a : Int), 0), (0, (a0 : Int), (a0 : Int)), (1, (b : Int), 0), (0, (b0 : Int), (b0 : Int))] vs) (hT : TI kd0 sh0 rt0 bd0 M) : OKo (R (k + 1) 178 Ev 466 vs M) (fun r => r.1 = (1, 0) ∧ r.2.1 = Ev ∧ r.2.2.2.2.2.2.1 = 466 ∧ TI kd0 sh0 rt0 bd0 r.2.2.2.2.2.1 ∧ CpR a a0 b b0 627 M r.2.2.2.2.2.1) := by
  obtain ⟨d, c, e1, e2⟩ := hmd
  obtain ⟨Na, Nb, n1, n2, n3, n4, n5⟩ := h
  have hmC : MdC mdCp d c := e1
  have hvs : vs = [vR a, vI a0, vR b, vI b0] := by
    have small : ∀ (m x : Nat), m ≤ 100000 → x < 4294967296 → ((m : Nat) : Int) ≤ sg x → sg x ≤ ((m : Nat) : Int) → x = m := fun m x hm hx h1 h2 => by
      have h3 : sg x = (m : Int) := Int.le_antisymm h2 h1
      clear h1 h2
      unfold sg bi at h3
      omega
    obtain ⟨p1, -, -⟩ := row_of hT ha n1
    obtain ⟨q1, q2, q3, -⟩ := row_of hT hb n2
    obtain ⟨q4, q5, q6, -⟩ := row_of hT ha n1
    cases vs with
    | nil => exact hv.elim
    | cons v1 vs =>
      cases vs with
      | nil => exact hv.2.elim
      | cons v2 vs =>
        cases vs with
        | nil => exact hv.2.2.elim
        | cons v3 vs =>
          cases vs with
          | nil => exact hv.2.2.2.elim
          | cons v4 vs =>
            cases vs with
            | cons _ _ => exact hv.2.2.2.2.elim
            | nil =>
              obtain ⟨w1, ⟨x, w2, w3, w4, w5⟩, w6, ⟨y, w7, w8, w9, w10⟩, _⟩ := hv
              have g1 : v1 = vR a := w1.1
              have g3 : v3 = vR b := w6.1
              rw [g1, g3, w2, w7, small a0 x (by omega) w3 w4 w5, small b0 y (by omega) w8 w9 w10]
  subst hvs
  rw [hR, e2, show (flatL [vR a, vI a0, vR b, vI b0]).length = 4 from rfl, show Nat.ble 4 mdCp.1 = true from rfl, gdt, show iniL mdCp.1 [vR a, vI a0, vR b, vI b0] = [vR a, vI a0, vR b, vI b0, vW 3] from rfl]
  have loop : ∀ (m k2 f : Nat) (M1 : Mem), k2 + m = 627 → 2 * m + 2 ≤ f → CpR a a0 b b0 k2 M M1 → TI kd0 sh0 rt0 bd0 M1 → OKo (runF (R k) d c f 1 Ev 466 0 (Lcp a a0 b b0 k2) [] M1) (fun r => r.1 = (1, 0) ∧ r.2.1 = Ev ∧ r.2.2.2.2.2.2.1 = 466 ∧ TI kd0 sh0 rt0 bd0 r.2.2.2.2.2.1 ∧ CpR a a0 b b0 627 M r.2.2.2.2.2.1) := by
    intro m
    induction m with
    | zero =>
      intro k2 f M1 hk hf g1 g2
      have e : k2 = 627 := by omega
      subst e
      obtain ⟨f', rfl⟩ : ∃ f', f = f' + 2 := ⟨f - 2, by omega⟩
      exact ⟨_, cp_s3 hmC, rfl, rfl, rfl, g2, g1⟩
    | succ m ih =>
      intro k2 f M1 hk hf g1 g2
      obtain ⟨f', rfl⟩ : ∃ f', f = f' + 1 + 1 := ⟨f - 2, by omega⟩
      obtain ⟨p, u1, u2, u3⟩ := row_of g2 ha n1
      obtain ⟨p', v1, v2, v3⟩ := row_of g2 hb n2
      rw [cp_s1 hmC (show k2 < 627 by omega), cp_s2 hmC u1 v1 (show a0 + k2 < Na by omega) (show b0 + k2 < Nb by omega) u2 v2 (show k2 < 627 by omega)]
      have hbd := allN_ok n5 k2 (by omega)
      obtain ⟨y1, y2⟩ := band (a := ieq (bd0 (kd0 b) ((b0 + k2 : Nat) : Int)).1 (bd0 (kd0 a) ((a0 + k2 : Nat) : Int)).1) (b := ieq (bd0 (kd0 b) ((b0 + k2 : Nat) : Int)).2 (bd0 (kd0 a) ((a0 + k2 : Nat) : Int)).2) hbd
      have y1 := ieq_iff.mp y1
      have y2 := ieq_iff.mp y2
      have hx := u3 (a0 + k2) (by omega)
      have hT2 := row_set (j := b0 + k2) g2 hb n2 v1 (pget_lt p (a0 + k2)) ⟨by rw [y1]; exact hx.1, by rw [y2]; exact hx.2⟩
      refine ih (k2 + 1) f' _ (by omega) (by omega) ⟨fun j hj => ?_, fun k' hk' i' hi' => ?_⟩ hT2
      · rw [rdI_self hb]
        show sg (pget (pset p' (b0 + k2) (pget p (a0 + k2))) (b0 + j)) = _
        rw [pget_pset]
        by_cases q : j = k2
        · rw [if_pos (by omega), Nat.mod_eq_of_lt (pget_lt _ _), q]
          have h9 : rdI M1 a (a0 + k2) = sg (pget p (a0 + k2)) := by unfold rdI; rw [u1]; rfl
          rw [← h9]
          exact g1.2 a ha (a0 + k2) (by omega)
        · rw [if_neg (by omega)]
          have h9 : rdI M1 b (b0 + j) = sg (pget p' (b0 + j)) := by unfold rdI; rw [v1]; rfl
          rw [← h9]
          exact g1.1 j (by omega)
      · by_cases q : k' = b
        · rw [q, rdI_self hb]
          show sg (pget (pset p' (b0 + k2) (pget p (a0 + k2))) i') = _
          rw [pget_pset, if_neg (by omega)]
          have h9 : rdI M1 b i' = sg (pget p' i') := by unfold rdI; rw [v1]; rfl
          rw [← h9]
          exact g1.2 b hb i' (by omega)
        · rw [rdI_other hb hk' q]
          exact g1.2 k' hk' i' (Or.inl q)
  rw [show (1000000000000 : Nat) = 999999999999 + 1 from rfl, cp_s0 hmC]
  exact loop 627 0 999999999999 M (by omega) (by omega) ⟨fun j hj => by omega, fun _ _ _ _ => rfl⟩ hT
