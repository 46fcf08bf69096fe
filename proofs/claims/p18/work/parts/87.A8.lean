/-! the stack, single numbers, longs, compares -/
section OPS4
variable {kd : Nat → Nat} {sh : Nat → Sh} {rt : Nat → Nat → Nat} {bd : Nat → Int → Int × Int} {Wp PR : Nat → Int → Bool} {Inv : Mem → Prop} {M0 : Mem} {Ev : Env9} {Zo : Nat} {B : List Int} {c : Nat} {P : Res → Prop} {K : KK} {k : SS → SR} {call : Call} {un : Nat → Bool}
noncomputable def snot (b : Bool) : Bool := Bool.rec true false b
theorem snot_t {b : Bool} (h : snot b = true) : b = false := by
  cases b with
  | false => rfl
  | true => cases h
noncomputable def x_dup : (SS → SR) → SS → SR := fun k σ => match σ.2.2.1 with
  | a :: S => gdS (snot (sC2 a)) (k (σ.1, σ.2.1, a :: a :: S, σ.2.2.2.1, σ.2.2.2.2))
  | [] => none
theorem s_dup (hK : KS kd sh rt bd Wp Inv M0 Ev Zo B c P K k) : KS kd sh rt bd Wp Inv M0 Ev Zo B c P (op_dup call K) (x_dup k) := by
  intro σ c' os h hc ho G L S M hB hS hM
  obtain ⟨E, Ls, Ss, H, z⟩ := σ
  rcases Ss with _ | ⟨a, Ss⟩
  · cases h
  obtain ⟨v, S, rfl, g1, g2⟩ := svs_cons hS.2.2.1
  obtain ⟨h1, h⟩ := gdS_some (show gdS (snot (sC2 a)) _ = _ from h)
  show OKo (gd (Bool.rec true false (isC2 v)) (K Ev 466 (Zo + z) L (v :: v :: S) M)) _
  rw [sC2_ok g1, snot_t h1]
  exact ks_use hK (σ := (E, Ls, a :: a :: Ss, H, z)) h hc ho hB ⟨hS.1, hS.2.1, ⟨g1, g1, g2⟩, hS.2.2.2⟩ hM
noncomputable def x_dup2 : (SS → SR) → SS → SR := fun k σ => match σ.2.2.1 with
  | a :: S => (match S with
    | b :: S => gdS (snot (sC2 a)) (gdS (snot (sC2 b)) (k (σ.1, σ.2.1, a :: b :: a :: b :: S, σ.2.2.2.1, σ.2.2.2.2)))
    | [] => none)
  | [] => none
theorem s_dup2 (hK : KS kd sh rt bd Wp Inv M0 Ev Zo B c P K k) : KS kd sh rt bd Wp Inv M0 Ev Zo B c P (op_dup2 call K) (x_dup2 k) := by
  intro σ c' os h hc ho G L S M hB hS hM
  obtain ⟨E, Ls, Ss, H, z⟩ := σ
  rcases Ss with _ | ⟨a, Ss⟩
  · cases h
  rcases Ss with _ | ⟨b, Ss⟩
  · cases h
  obtain ⟨v, S, rfl, g1, g2⟩ := svs_cons hS.2.2.1
  obtain ⟨u, S, rfl, g3, g4⟩ := svs_cons g2
  obtain ⟨h1, h⟩ := gdS_some (show gdS (snot (sC2 a)) _ = _ from h)
  obtain ⟨h2, h⟩ := gdS_some h
  show OKo (gd (Bool.rec true false (isC2 v)) (gd (Bool.rec true false (isC2 u)) (K Ev 466 (Zo + z) L (v :: u :: v :: u :: S) M))) _
  rw [sC2_ok g1, snot_t h1, sC2_ok g3, snot_t h2]
  exact ks_use hK (σ := (E, Ls, a :: b :: a :: b :: Ss, H, z)) h hc ho hB ⟨hS.1, hS.2.1, ⟨g1, g3, g1, g3, g4⟩, hS.2.2.2⟩ hM
noncomputable def x_pop : (SS → SR) → SS → SR := fun k σ => match σ.2.2.1 with
  | a :: S => gdS (snot (sC2 a)) (k (σ.1, σ.2.1, S, σ.2.2.2.1, σ.2.2.2.2))
  | [] => none
theorem s_pop (hK : KS kd sh rt bd Wp Inv M0 Ev Zo B c P K k) : KS kd sh rt bd Wp Inv M0 Ev Zo B c P (op_pop call K) (x_pop k) := by
  intro σ c' os h hc ho G L S M hB hS hM
  obtain ⟨E, Ls, Ss, H, z⟩ := σ
  rcases Ss with _ | ⟨a, Ss⟩
  · cases h
  obtain ⟨v, S, rfl, g1, g2⟩ := svs_cons hS.2.2.1
  obtain ⟨h1, h⟩ := gdS_some (show gdS (snot (sC2 a)) _ = _ from h)
  show OKo (gd (Bool.rec true false (isC2 v)) (K Ev 466 (Zo + z) L S M)) _
  rw [sC2_ok g1, snot_t h1]
  exact ks_use hK (σ := (E, Ls, Ss, H, z)) h hc ho hB ⟨hS.1, hS.2.1, g2, hS.2.2.2⟩ hM
/-- a step that takes an int, gives one -/
noncomputable def x_1 (f : YE → Aff → YE × Aff) : (SS → SR) → SS → SR := fun k σ => match σ.2.2.1 with
  | .inl x :: S => k ((f σ.1 x).1, σ.2.1, sI (f σ.1 x).2 :: S, σ.2.2.2.1, σ.2.2.2.2)
  | _ => none
theorem s_1 {f : YE → Aff → YE × Aff} {g : Nat → Nat} (hg : ∀ x, g x < 4294967296)
    (hf : ∀ (G : List Int) (E : YE) (x : Aff) (a : Nat), yenv G E → a < 4294967296 → yev G x = some (sg a) → ∃ G', G <+: G' ∧ yenv G' (f E x).1 ∧ yev G' (f E x).2 = some (sg (g a)))
    (hK : KS kd sh rt bd Wp Inv M0 Ev Zo B c P K k) : KS kd sh rt bd Wp Inv M0 Ev Zo B c P (op_un g call K) (x_1 f k) := by
  intro σ c' os h hc ho G L S M hB hS hM
  obtain ⟨E, Ls, Ss, H, z⟩ := σ
  rcases Ss with _ | ⟨x, Ss⟩
  · cases h
  rcases x with x | x | x | x | x | x
  · obtain ⟨v, S, rfl, g1, g2⟩ := svs_cons hS.2.2.1
    obtain ⟨a, rfl, a1, a2⟩ := g1
    obtain ⟨G', p1, p2, p3⟩ := hf G E x a hS.1 a1 a2
    have h5 := ks_use hK (σ := ((f E x).1, Ls, sI (f E x).2 :: Ss, H, z)) (L := L) (S := vI (g a) :: S) h hc ho (hB.trans p1) ⟨p2, svs_mono p1 hS.2.1, ⟨⟨_, rfl, hg _, p3⟩, svs_mono p1 g2⟩, ovl_mono p1 hS.2.2.2⟩ hM
    show OKo (fN (g a) fun r => K Ev 466 (Zo + z) L (.inl r :: S) M) _
    rw [fN_eq]
    exact h5
  all_goals cases h
theorem s_neg (hK : KS kd sh rt bd Wp Inv M0 Ev Zo B c P K k) : KS kd sh rt bd Wp Inv M0 Ev Zo B c P (op_un g_ineg call K) (x_1 (fun E x => yfit E (x.1, (-1) * x.2.1, (-1) * x.2.2)) k) :=
  s_1 (g := g_ineg) (fun _ => toN_lt _) (fun G E x a hE _ h => by
    obtain ⟨G', p1, p2, p3⟩ := yfit_ok hE (yscale (c := -1) h)
    exact ⟨G', p1, p2, by rw [p3]; unfold g_ineg; rw [sg_neg, show -1 * sg a = -sg a by omega]⟩) hK
/-- within these bounds it stays, else any number of them -/
noncomputable def ycut (lo hi : Int) (E : YE) (x : Aff) : YE × Aff := Bool.rec (yfresh E lo hi) (E, x) (yin (yrg E x) (lo, hi))
theorem ycut_ok {G : List Int} {E : YE} (hE : yenv G E) {x : Aff} {lo hi a b : Int} (hx : yev G x = some a) (h1 : lo ≤ b) (h2 : b ≤ hi) (h : lo ≤ a → a ≤ hi → b = a) : ∃ G', G <+: G' ∧ yenv G' (ycut lo hi E x).1 ∧ yev G' (ycut lo hi E x).2 = some b := by
  unfold ycut
  cases hy : yin (yrg E x) (lo, hi) with
  | true =>
    obtain ⟨q1, q2⟩ := yin_ok hE hx hy
    exact ⟨G, List.prefix_refl _, hE, by rw [h q1 q2]; exact hx⟩
  | false =>
    obtain ⟨r1, r2⟩ := yfresh_ok hE h1 h2
    exact ⟨_, List.prefix_append _ _, r1, r2⟩
theorem s_i2b (hK : KS kd sh rt bd Wp Inv M0 Ev Zo B c P K k) : KS kd sh rt bd Wp Inv M0 Ev Zo B c P (op_un g_i2b call K) (x_1 (ycut (-128) 127) k) :=
  s_1 (g := g_i2b) (fun _ => toN_lt _) (fun G E x a hE _ h => by
    obtain ⟨q1, q2⟩ := i8_in a
    exact ycut_ok hE h q1 q2 (fun h1 h2 => i8_id h1 h2)) hK
theorem s_i2c (hK : KS kd sh rt bd Wp Inv M0 Ev Zo B c P K k) : KS kd sh rt bd Wp Inv M0 Ev Zo B c P (op_un g_i2c call K) (x_1 (ycut 0 65535) k) :=
  s_1 (g := g_i2c) (fun _ => toN_lt _) (fun G E x a hE ha h => by
    have e : g_i2c a = a % 65536 := by
      unfold g_i2c toN nI
      simp
    have e2 : sg (g_i2c a) = ((a % 65536 : Nat) : Int) := by rw [e]; exact sg_eq (by omega)
    refine ycut_ok hE h (by rw [e2]; omega) (by rw [e2]; omega) (fun h1 h2 => ?_)
    have : a ≤ 65535 := sg_small ha (n := 65535) (by omega) h1 h2
    rw [e2, sg_eq (by omega)]
    omega) hK
/-- the remainder by a number that surely is above 0 -/
noncomputable def yrem (E : YE) (x y : Aff) : YE × Aff := match yrg E x, yrg E y with
  | some a, some b => Bool.rec (yfresh E (1 - b.2) (b.2 - 1)) (yfresh E 0 (imin (b.2 - 1) a.2)) (ile 0 a.1)
  | _, _ => (E, x)
noncomputable def x_irem : (SS → SR) → SS → SR := fun k σ => match σ.2.2.1 with
  | .inl y :: S => (match S with
    | .inl x :: S => (match yrg σ.1 x, yrg σ.1 y with
      | some _, some b => gdS (ile 1 b.1) (k ((yrem σ.1 x y).1, σ.2.1, sI (yrem σ.1 x y).2 :: S, σ.2.2.2.1, σ.2.2.2.2))
      | _, _ => none)
    | _ => none)
  | _ => none
theorem tmod_any {a b h : Int} (h1 : 1 ≤ b) (h2 : b ≤ h) : 1 - h ≤ a.tmod b ∧ a.tmod b ≤ h - 1 := by
  have q1 := Int.tmod_lt_of_pos a (show 0 < b by omega)
  have q2 := Int.lt_tmod_of_pos a (show 0 < b by omega)
  omega
theorem tmod_pos {a b h u : Int} (h0 : 0 ≤ a) (h1 : 1 ≤ b) (h2 : b ≤ h) (h3 : a ≤ u) : 0 ≤ a.tmod b ∧ a.tmod b ≤ imin (h - 1) u := by
  have q1 := Int.tmod_lt_of_pos a (show 0 < b by omega)
  have q2 := Int.tmod_nonneg b h0
  have q3 : a.tmod b ≤ a := by
    rw [Int.tmod_eq_emod_of_nonneg h0]
    have e := Int.emod_add_mul_ediv a b
    have e2 : 0 ≤ b * (a / b) := Int.mul_nonneg (by omega) (Int.ediv_nonneg h0 (by omega))
    omega
  exact ⟨q2, le_imin (by omega) (by omega)⟩
theorem yrem_ok {G : List Int} {E : YE} (hE : yenv G E) {x y : Aff} {a b : Int} {ra rb : Int × Int} (ha : yev G x = some a) (hb : yev G y = some b) (h1 : yrg E x = some ra) (h2 : yrg E y = some rb) (h3 : 1 ≤ rb.1) : ∃ G', G <+: G' ∧ yenv G' (yrem E x y).1 ∧ yev G' (yrem E x y).2 = some (a.tmod b) := by
  have qa := yrg_ok hE ha h1
  have qb := yrg_ok hE hb h2
  unfold yrem
  simp only [h1, h2]
  cases hi : ile 0 ra.1 with
  | false =>
    obtain ⟨t1, t2⟩ := tmod_any (a := a) (b := b) (h := rb.2) (by omega) qb.2
    obtain ⟨r1, r2⟩ := yfresh_ok hE t1 t2
    exact ⟨_, List.prefix_append _ _, r1, r2⟩
  | true =>
    have hi := ile_iff.mp hi
    obtain ⟨t1, t2⟩ := tmod_pos (a := a) (b := b) (h := rb.2) (u := ra.2) (by omega) (by omega) qb.2 qa.2
    obtain ⟨r1, r2⟩ := yfresh_ok hE t1 t2
    exact ⟨_, List.prefix_append _ _, r1, r2⟩
theorem sg_rem (a b : Nat) : sg (toN (nI a - nI a / nI b * nI b)) = (sg a).tmod (sg b) := by rw [sg_toN, rem_toInt, sg_toInt, sg_toInt]
theorem sg_pos {b : Nat} (hb : b < 4294967296) (h : 1 ≤ sg b) : 1 ≤ b % 4294967296 := by
  unfold sg bi at h
  omega
theorem op_irem_n {E : Env9} {n z a b : Nat} {L S : List AV} {M : Mem} (h : 1 ≤ b % 4294967296) : op_irem call K E n z L (vI b :: vI a :: S) M = K E n z L (vI (toN (nI a - nI a / nI b * nI b)) :: S) M := by
  have e : op_irem call K E n z L (vI b :: vI a :: S) M = gd (Nat.ble 1 (b % 4294967296)) (fN (toN (nI a - nI a / nI b * nI b)) fun r => K E n z L (.inl r :: S) M) := rfl
  rw [e, fN_eq, Nat.ble_eq_true_of_le h]
  rfl
theorem s_irem (hK : KS kd sh rt bd Wp Inv M0 Ev Zo B c P K k) : KS kd sh rt bd Wp Inv M0 Ev Zo B c P (op_irem call K) (x_irem k) := by
  intro σ c' os h hc ho G L S M hB hS hM
  obtain ⟨E, Ls, Ss, H, z⟩ := σ
  rcases Ss with _ | ⟨y, Ss⟩
  · cases h
  rcases y with y | y | y | y | y | y
  · rcases Ss with _ | ⟨x, Ss⟩
    · cases h
    rcases x with x | x | x | x | x | x
    · obtain ⟨v, S, rfl, g1, g2⟩ := svs_cons hS.2.2.1
      obtain ⟨u, S, rfl, g3, g4⟩ := svs_cons g2
      obtain ⟨b, rfl, b1, b2⟩ := g1
      obtain ⟨a, rfl, a1, a2⟩ := g3
      unfold x_irem at h
      cases ra : yrg E x with
      | none => simp only [ra] at h; cases h
      | some ra' =>
        cases rb : yrg E y with
        | none => simp only [ra, rb] at h; cases h
        | some rb' =>
          simp only [ra, rb] at h
          obtain ⟨h1, h⟩ := gdS_some h
          have h1 := ile_iff.mp h1
          have qb := yrg_ok hS.1 b2 rb
          show OKo (op_irem call K Ev 466 (Zo + z) L (vI b :: vI a :: S) M) _
          rw [op_irem_n (sg_pos b1 (Int.le_trans h1 qb.1))]
          obtain ⟨G', p1, p2, p3⟩ := yrem_ok hS.1 a2 b2 ra rb h1
          exact ks_use hK (σ := ((yrem E x y).1, Ls, sI (yrem E x y).2 :: Ss, H, z)) h hc ho (hB.trans p1) ⟨p2, svs_mono p1 hS.2.1, ⟨⟨_, rfl, toN_lt _, by rw [p3, sg_rem]⟩, svs_mono p1 g4⟩, ovl_mono p1 hS.2.2.2⟩ hM
    all_goals cases h
  all_goals cases h
noncomputable def x_i2l : (SS → SR) → SS → SR := fun k σ => match σ.2.2.1 with
  | .inl x :: S => k (σ.1, σ.2.1, sJ x :: S, σ.2.2.2.1, σ.2.2.2.2)
  | _ => none
theorem s_i2l (hK : KS kd sh rt bd Wp Inv M0 Ev Zo B c P K k) : KS kd sh rt bd Wp Inv M0 Ev Zo B c P (op_i2l call K) (x_i2l k) := by
  intro σ c' os h hc ho G L S M hB hS hM
  obtain ⟨E, Ls, Ss, H, z⟩ := σ
  rcases Ss with _ | ⟨x, Ss⟩
  · cases h
  rcases x with x | x | x | x | x | x
  · obtain ⟨v, S, rfl, g1, g2⟩ := svs_cons hS.2.2.1
    obtain ⟨a, rfl, a1, a2⟩ := g1
    show OKo (fN (toNL (nI a).toInt64) fun r => K Ev 466 (Zo + z) L (vJ r :: S) M) _
    rw [fN_eq]
    exact ks_use hK (σ := (E, Ls, sJ x :: Ss, H, z)) h hc ho hB ⟨hS.1, hS.2.1, ⟨⟨_, rfl, by rw [lsg_i2l]; exact a2⟩, g2⟩, hS.2.2.2⟩ hM
  all_goals cases h
/-- from a long to an int: only the last 32 binary places -/
noncomputable def x_l2i : (SS → SR) → SS → SR := fun k σ => match σ.2.2.1 with
  | .inr (.inl x) :: S => k ((yfit σ.1 x).1, σ.2.1, sI (yfit σ.1 x).2 :: S, σ.2.2.2.1, σ.2.2.2.2)
  | .inr (.inr (.inr (.inr (.inr t)))) :: S => gdS (Nat.beq t 3) (k ((yfull σ.1).1, σ.2.1, sI (yfull σ.1).2 :: S, σ.2.2.2.1, σ.2.2.2.2))
  | _ => none
theorem lsg_l2i (x : Nat) : sg (toN (lN x).toInt32) = w32 (lsg x) := by
  rw [sg_toN, w32_bmod, ← lsg_toInt]
  simp
theorem s_l2i (hK : KS kd sh rt bd Wp Inv M0 Ev Zo B c P K k) : KS kd sh rt bd Wp Inv M0 Ev Zo B c P (op_l2i call K) (x_l2i k) := by
  intro σ c' os h hc ho G L S M hB hS hM
  obtain ⟨E, Ls, Ss, H, z⟩ := σ
  rcases Ss with _ | ⟨x, Ss⟩
  · cases h
  obtain ⟨v, S, rfl, g1, g2⟩ := svs_cons hS.2.2.1
  rcases x with x | x | x | x | x | t
  · cases h
  · obtain ⟨a, rfl, a2⟩ := g1
    show OKo (fN (toN (lN a).toInt32) fun r => K Ev 466 (Zo + z) L (vI r :: S) M) _
    rw [fN_eq]
    obtain ⟨G', p1, p2, p3⟩ := yfit_ok hS.1 a2
    exact ks_use hK (σ := ((yfit E x).1, Ls, sI (yfit E x).2 :: Ss, H, z)) h hc ho (hB.trans p1) ⟨p2, svs_mono p1 hS.2.1, ⟨⟨_, rfl, toN_lt _, by rw [p3, lsg_l2i]⟩, svs_mono p1 g2⟩, ovl_mono p1 hS.2.2.2⟩ hM
  · cases h
  · cases h
  · cases h
  · obtain ⟨ht, h⟩ := gdS_some (show gdS (Nat.beq t 3) _ = _ from h)
    have ht : t = 3 := Nat.eq_of_beq_eq_true ht
    subst ht
    obtain ⟨a, rfl⟩ := g1
    show OKo (fN (toN (lN a).toInt32) fun r => K Ev 466 (Zo + z) L (vI r :: S) M) _
    rw [fN_eq]
    obtain ⟨G', p1, p2, p3⟩ := yfull_ok hS.1 (toN (lN a).toInt32)
    exact ks_use hK (σ := ((yfull E).1, Ls, sI (yfull E).2 :: Ss, H, z)) h hc ho (hB.trans p1) ⟨p2, svs_mono p1 hS.2.1, ⟨⟨_, rfl, toN_lt _, p3⟩, svs_mono p1 g2⟩, ovl_mono p1 hS.2.2.2⟩ hM
theorem sP1_J {G : List Int} {E : YE} {a : SV} {v : AV} (h : sP E 1 a = true) (hv : sv kd G a v) : ∃ n, v = vJ n := by
  rcases a with x | x | x | x | x | t
  · cases h
  · obtain ⟨n, e, _⟩ := hv; exact ⟨n, e⟩
  · cases h
  · cases h
  · cases h
  · have ht : t = 3 := Nat.eq_of_beq_eq_true h
    subst ht
    exact hv
/-- two longs, or a long and an int on it: some long -/
noncomputable def x_lb (f : Nat) : (SS → SR) → SS → SR := fun k σ => match σ.2.2.1 with
  | b :: S => (match S with
    | a :: S => gdS (sP σ.1 f b) (gdS (sP σ.1 1 a) (k (σ.1, σ.2.1, sT 3 :: S, σ.2.2.2.1, σ.2.2.2.2)))
    | [] => none)
  | [] => none
theorem s_lbin {g : Nat → Nat → Nat} (hK : KS kd sh rt bd Wp Inv M0 Ev Zo B c P K k) : KS kd sh rt bd Wp Inv M0 Ev Zo B c P (op_lbin g call K) (x_lb 1 k) := by
  intro σ c' os h hc ho G L S M hB hS hM
  obtain ⟨E, Ls, Ss, H, z⟩ := σ
  rcases Ss with _ | ⟨b, Ss⟩
  · cases h
  rcases Ss with _ | ⟨a, Ss⟩
  · cases h
  obtain ⟨v, S, rfl, g1, g2⟩ := svs_cons hS.2.2.1
  obtain ⟨u, S, rfl, g3, g4⟩ := svs_cons g2
  obtain ⟨h1, h⟩ := gdS_some (show gdS (sP E 1 b) _ = _ from h)
  obtain ⟨h2, h⟩ := gdS_some h
  obtain ⟨y, rfl⟩ := sP1_J h1 g1
  obtain ⟨x, rfl⟩ := sP1_J h2 g3
  show OKo (fN (g x y) fun r => K Ev 466 (Zo + z) L (vJ r :: S) M) _
  rw [fN_eq]
  exact ks_use hK (σ := (E, Ls, sT 3 :: Ss, H, z)) h hc ho hB ⟨hS.1, hS.2.1, ⟨⟨_, rfl⟩, g4⟩, hS.2.2.2⟩ hM
theorem s_lsh {g : Nat → Nat → Nat} (hK : KS kd sh rt bd Wp Inv M0 Ev Zo B c P K k) : KS kd sh rt bd Wp Inv M0 Ev Zo B c P (op_lsh g call K) (x_lb 0 k) := by
  intro σ c' os h hc ho G L S M hB hS hM
  obtain ⟨E, Ls, Ss, H, z⟩ := σ
  rcases Ss with _ | ⟨b, Ss⟩
  · cases h
  rcases Ss with _ | ⟨a, Ss⟩
  · cases h
  obtain ⟨v, S, rfl, g1, g2⟩ := svs_cons hS.2.2.1
  obtain ⟨u, S, rfl, g3, g4⟩ := svs_cons g2
  obtain ⟨h1, h⟩ := gdS_some (show gdS (sP E 0 b) _ = _ from h)
  obtain ⟨h2, h⟩ := gdS_some h
  obtain ⟨y, rfl⟩ : ∃ y, v = vI y := by
    rcases b with x | x | x | x | x | t
    · obtain ⟨n, e, _⟩ := g1; exact ⟨n, e⟩
    all_goals cases h1
  obtain ⟨x, rfl⟩ := sP1_J h2 g3
  show OKo (fN (g x y) fun r => K Ev 466 (Zo + z) L (vJ r :: S) M) _
  rw [fN_eq]
  exact ks_use hK (σ := (E, Ls, sT 3 :: Ss, H, z)) h hc ho hB ⟨hS.1, hS.2.1, ⟨⟨_, rfl⟩, g4⟩, hS.2.2.2⟩ hM
/-- a compare of longs: used by the next test; of unknown ones: any of the three -/
noncomputable def x_lcmp : (SS → SR) → SS → SR := fun k σ => match σ.2.2.1 with
  | b :: S => (match S with
    | a :: S => gdS (sP σ.1 1 b) (gdS (sP σ.1 1 a) (match a, b with
      | .inr (.inl x), .inr (.inl y) => k (σ.1, σ.2.1, sC (x, y) :: S, σ.2.2.2.1, σ.2.2.2.2)
      | _, _ => k ((yfresh σ.1 (-1) 1).1, σ.2.1, sI (yfresh σ.1 (-1) 1).2 :: S, σ.2.2.2.1, σ.2.2.2.2)))
    | [] => none)
  | [] => none
theorem lcmp_sg (x y : Nat) : sg (toN (lg_cmp (lN x) (lN y))) = (if lsg x < lsg y then -1 else if lsg x = lsg y then 0 else 1) := by
  rw [sg_toN]
  unfold lg_cmp
  have h1 : (lN x > lN y) ↔ lsg y < lsg x := by
    show lN y < lN x ↔ _
    rw [Int64.lt_iff_toInt_lt, lsg_toInt, lsg_toInt]
  have h2 : (lN x = lN y) ↔ lsg x = lsg y := by
    rw [← lsg_toInt, ← lsg_toInt]
    exact ⟨fun h => by rw [h], fun h => Int64.toInt_inj.mp h⟩
  simp only [h1, h2]
  by_cases e1 : lsg y < lsg x
  · rw [if_pos e1, if_neg (by omega), if_neg (by omega)]; rfl
  · rw [if_neg e1]
    by_cases e2 : lsg x = lsg y
    · rw [if_pos e2, if_neg (by omega), if_pos e2]; rfl
    · rw [if_neg e2, if_pos (by omega)]; rfl
theorem lcmp_in (x y : Nat) : -1 ≤ sg (toN (lg_cmp (lN x) (lN y))) ∧ sg (toN (lg_cmp (lN x) (lN y))) ≤ 1 := by
  rw [lcmp_sg]
  by_cases e1 : lsg x < lsg y
  · rw [if_pos e1]; exact ⟨by omega, by omega⟩
  · rw [if_neg e1]
    by_cases e2 : lsg x = lsg y
    · rw [if_pos e2]; exact ⟨by omega, by omega⟩
    · rw [if_neg e2]; exact ⟨by omega, by omega⟩
theorem s_lcmp (hK : KS kd sh rt bd Wp Inv M0 Ev Zo B c P K k) : KS kd sh rt bd Wp Inv M0 Ev Zo B c P (op_lcmp call K) (x_lcmp k) := by
  intro σ c' os h hc ho G L S M hB hS hM
  obtain ⟨E, Ls, Ss, H, z⟩ := σ
  rcases Ss with _ | ⟨b, Ss⟩
  · cases h
  rcases Ss with _ | ⟨a, Ss⟩
  · cases h
  obtain ⟨v, S, rfl, g1, g2⟩ := svs_cons hS.2.2.1
  obtain ⟨u, S, rfl, g3, g4⟩ := svs_cons g2
  obtain ⟨h1, h⟩ := gdS_some (show gdS (sP E 1 b) _ = _ from h)
  obtain ⟨h2, h⟩ := gdS_some h
  obtain ⟨y, hy⟩ := sP1_J h1 g1
  obtain ⟨x, hx⟩ := sP1_J h2 g3
  have eop : op_lcmp call K Ev 466 (Zo + z) L (v :: u :: S) M = K Ev 466 (Zo + z) L (vI (toN (lg_cmp (lN x) (lN y))) :: S) M := by
    rw [hy, hx]
    show fN (toN (lg_cmp (lN x) (lN y))) (fun r => K Ev 466 (Zo + z) L (vI r :: S) M) = _
    rw [fN_eq]
  show OKo (op_lcmp call K Ev 466 (Zo + z) L (v :: u :: S) M) _
  rw [eop]
  have any : k ((yfresh E (-1) 1).1, Ls, sI (yfresh E (-1) 1).2 :: Ss, H, z) = some (c', os) → OKo (K Ev 466 (Zo + z) L (vI (toN (lg_cmp (lN x) (lN y))) :: S) M) P := by
    intro h
    obtain ⟨r1, r2⟩ := yfresh_ok hS.1 (lo := -1) (hi := 1) (x := sg (toN (lg_cmp (lN x) (lN y)))) (lcmp_in x y).1 (lcmp_in x y).2
    have hp : G <+: G ++ [sg (toN (lg_cmp (lN x) (lN y)))] := List.prefix_append _ _
    exact ks_use hK (σ := ((yfresh E (-1) 1).1, Ls, sI (yfresh E (-1) 1).2 :: Ss, H, z)) h hc ho (hB.trans hp) ⟨r1, svs_mono hp hS.2.1, ⟨⟨_, rfl, toN_lt _, r2⟩, svs_mono hp g4⟩, ovl_mono hp hS.2.2.2⟩ hM
  rcases a with q | xa | q | q | q | q
  · exact any h
  · rcases b with q | yb | q | q | q | q
    · exact any h
    · obtain ⟨y', e1, e2⟩ := g1
      obtain ⟨x', e3, e4⟩ := g3
      rw [hy] at e1
      rw [hx] at e3
      cases e1
      cases e3
      exact ks_use hK (σ := (E, Ls, sC (xa, yb) :: Ss, H, z)) h hc ho hB ⟨hS.1, hS.2.1, ⟨⟨_, _, _, rfl, toN_lt _, e4, e2, lcmp_sg x y⟩, g4⟩, hS.2.2.2⟩ hM
    all_goals exact any h
  all_goals exact any h
end OPS4
