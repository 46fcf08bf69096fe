/-! each step: what the symbolic run does, the small machine does -/
section OPS1
variable {kd : Nat → Nat} {sh : Nat → Sh} {rt : Nat → Nat → Nat} {bd : Nat → Int → Int × Int} {Wp : Nat → Int → Bool} {Inv : Mem → Prop} {M0 : Mem} {Ev : Env9} {Zo : Nat} {B : List Int} {c : Nat} {P : Res → Prop} {K : KK} {k : SS → SR} {call : Call}
/-- what a step must give -/
theorem ks_use (hK : KS kd sh rt bd Wp Inv M0 Ev Zo B c P K k) {σ : SS} {r : Nat × List Out} (h : k σ = some r) (h1 : r.1 ≤ c) (h2 : ∀ o ∈ r.2, OutP kd sh rt bd Wp Inv M0 Ev B P o) {G : List Int} {L S : List AV} {M : Mem} (hB : B <+: G) (hS : Sat kd G σ L S M) (hM : GM kd sh rt bd Wp Inv M0 M) : OKo (K Ev 466 (Zo + σ.2.2.2.2) L S M) P := hK σ r.1 r.2 h h1 h2 G L S M hB hS hM
noncomputable def x_push (a : SV) : (SS → SR) → SS → SR := fun k σ => k (σ.1, σ.2.1, a :: σ.2.2.1, σ.2.2.2.1, σ.2.2.2.2)
theorem s_push {a : SV} {v : AV} (hv : ∀ G, sv kd G a v) (hK : KS kd sh rt bd Wp Inv M0 Ev Zo B c P K k) : KS kd sh rt bd Wp Inv M0 Ev Zo B c P (op_push v call K) (x_push a k) := by
  intro σ c' os h hc ho G L S M hB hS hM
  exact ks_use hK (σ := (σ.1, σ.2.1, a :: σ.2.2.1, σ.2.2.2.1, σ.2.2.2.2)) (L := L) (S := v :: S) h hc ho hB ⟨hS.1, hS.2.1, ⟨hv G, hS.2.2.1⟩, hS.2.2.2⟩ hM
noncomputable def x_ld (f i : Nat) : (SS → SR) → SS → SR := fun k σ => match yat σ.2.1 i with
  | some a => gdS (sP σ.1 f a) (k (σ.1, σ.2.1, a :: σ.2.2.1, σ.2.2.2.1, σ.2.2.2.2))
  | none => none
theorem s_ld {f i : Nat} (hK : KS kd sh rt bd Wp Inv M0 Ev Zo B c P K k) : KS kd sh rt bd Wp Inv M0 Ev Zo B c P (op_ld (fP f) i call K) (x_ld f i k) := by
  intro σ c' os h hc ho G L S M hB hS hM
  unfold x_ld at h
  rw [yat_eq] at h
  cases ha : σ.2.1[i]? with
  | none => rw [ha] at h; cases h
  | some a =>
    rw [ha] at h
    obtain ⟨h1, h2⟩ := gdS_some h
    obtain ⟨g1, g2⟩ := svs_at hS.2.1 ha
    have h3 := ks_use hK (σ := (σ.1, σ.2.1, a :: σ.2.2.1, σ.2.2.2.1, σ.2.2.2.2)) (L := L) (S := nth L i :: S) h2 hc ho hB ⟨hS.1, hS.2.1, ⟨g1, hS.2.2.1⟩, hS.2.2.2⟩ hM
    have e : op_ld (fP f) i call K Ev 466 (Zo + σ.2.2.2.2) L S M = gd (fP f (nth L i)) (K Ev 466 (Zo + σ.2.2.2.2) L (nth L i :: S) M) := rfl
    rw [e, sP_ok hS.1 h1 g1]
    exact h3
/-- the place below isn't a long -/
noncomputable def xk2 (L : List SV) (i : Nat) : Bool := Nat.rec true (fun j _ => match yat L j with | some a => Bool.rec true false (sC2 a) | none => false) i
theorem xk2_ok {G : List Int} {L : List SV} {w : List AV} (hL : svs kd G L w) {i : Nat} (h : xk2 L i = true) : lk2 w i = true := by
  cases i with
  | zero => rfl
  | succ j =>
    have h : (match yat L j with | some a => Bool.rec true false (sC2 a) | none => false : Bool) = true := h
    rw [yat_eq] at h
    cases ha : L[j]? with
    | none => rw [ha] at h; cases h
    | some a =>
      rw [ha] at h
      have h : (Bool.rec true false (sC2 a) : Bool) = true := h
      show (Bool.rec true false (isC2 (nth w j)) : Bool) = true
      rw [sC2_ok (svs_at hL ha).1]
      exact h
noncomputable def x_st (f i : Nat) : (SS → SR) → SS → SR := fun k σ => match σ.2.2.1 with
  | a :: S => gdS (sP σ.1 f a) (gdS (xk2 σ.2.1 i) (k (σ.1, yst σ.2.1 i a, S, σ.2.2.2.1, σ.2.2.2.2)))
  | [] => none
theorem s_st {f i : Nat} (hK : KS kd sh rt bd Wp Inv M0 Ev Zo B c P K k) : KS kd sh rt bd Wp Inv M0 Ev Zo B c P (op_st (fP f) i call K) (x_st f i k) := by
  intro σ c' os h hc ho G L S M hB hS hM
  obtain ⟨E, Ls, Ss, H, z⟩ := σ
  rcases Ss with _ | ⟨a, Ss⟩
  · cases h
  obtain ⟨v, S, rfl, g1, g2⟩ := svs_cons hS.2.2.1
  obtain ⟨h1, h2⟩ := gdS_some (show gdS (sP E f a) _ = _ from h)
  obtain ⟨h3, h4⟩ := gdS_some h2
  have h5 := ks_use hK (σ := (E, yst Ls i a, Ss, H, z)) (L := nst L i v) (S := S) h4 hc ho hB ⟨hS.1, by rw [yst_eq]; exact svs_set g1 hS.2.1 i, g2, hS.2.2.2⟩ hM
  have e : op_st (fP f) i call K Ev 466 (Zo + z) L (v :: S) M = gd (fP f v) (gd (lk2 L i) (K Ev 466 (Zo + z) (nst L i v) S M)) := rfl
  show OKo (op_st (fP f) i call K Ev 466 (Zo + z) L (v :: S) M) _
  rw [e, sP_ok hS.1 h1 g1, xk2_ok hS.2.1 h3]
  exact h5
noncomputable def x_st2 (f i : Nat) : (SS → SR) → SS → SR := fun k σ => match σ.2.2.1 with
  | a :: S => gdS (sP σ.1 f a) (gdS (xk2 σ.2.1 i) (k (σ.1, yst (yst σ.2.1 i a) (i + 1) (sT 0), S, σ.2.2.2.1, σ.2.2.2.2)))
  | [] => none
theorem s_st2 {f i : Nat} (hK : KS kd sh rt bd Wp Inv M0 Ev Zo B c P K k) : KS kd sh rt bd Wp Inv M0 Ev Zo B c P (op_st2 (fP f) i call K) (x_st2 f i k) := by
  intro σ c' os h hc ho G L S M hB hS hM
  obtain ⟨E, Ls, Ss, H, z⟩ := σ
  rcases Ss with _ | ⟨a, Ss⟩
  · cases h
  obtain ⟨v, S, rfl, g1, g2⟩ := svs_cons hS.2.2.1
  obtain ⟨h1, h2⟩ := gdS_some (show gdS (sP E f a) _ = _ from h)
  obtain ⟨h3, h4⟩ := gdS_some h2
  have h5 := ks_use hK (σ := (E, yst (yst Ls i a) (i + 1) (sT 0), Ss, H, z)) (L := nst (nst L i v) (i + 1) (vW 3)) (S := S) h4 hc ho hB ⟨hS.1, by rw [yst_eq, yst_eq]; exact svs_set (show sv kd G (sT 0) (vW 3) from rfl) (svs_set g1 hS.2.1 i) (i + 1), g2, hS.2.2.2⟩ hM
  have e : op_st2 (fP f) i call K Ev 466 (Zo + z) L (v :: S) M = gd (fP f v) (gd (lk2 L i) (K Ev 466 (Zo + z) (nst (nst L i v) (i + 1) (vW 3)) S M)) := rfl
  show OKo (op_st2 (fP f) i call K Ev 466 (Zo + z) L (v :: S) M) _
  rw [e, sP_ok hS.1 h1 g1, xk2_ok hS.2.1 h3]
  exact h5
/-- the state with a longer env -/
theorem sat_up {G G' : List Int} {σ : SS} {L S : List AV} {M : Mem} (h : G <+: G') {E' : YE} (hE : yenv G' E') (hS : Sat kd G σ L S M) : Sat kd G' (E', σ.2.1, σ.2.2.1, σ.2.2.2.1, σ.2.2.2.2) L S M := ⟨hE, svs_mono h hS.2.1, svs_mono h hS.2.2.1, ovl_mono h hS.2.2.2⟩
theorem i_of {v : Int} (h1 : -2147483648 ≤ v) (h2 : v ≤ 2147483647) : ∃ x : Nat, x < 4294967296 ∧ sg x = v := by
  refine ⟨(v % 4294967296).toNat, by omega, ?_⟩
  unfold sg bi
  omega
noncomputable def x_iinc (i : Nat) (d : Int) : (SS → SR) → SS → SR := fun k σ => match yat σ.2.1 i with
  | some a => (match a with
    | .inl q => gdS (xk2 σ.2.1 i) (k ((yadd σ.1 1 q (0, 0, d)).1, yst σ.2.1 i (sI (yadd σ.1 1 q (0, 0, d)).2), σ.2.2.1, σ.2.2.2.1, σ.2.2.2.2))
    | _ => none)
  | none => none
theorem s_iinc {i d : Nat} (hK : KS kd sh rt bd Wp Inv M0 Ev Zo B c P K k) : KS kd sh rt bd Wp Inv M0 Ev Zo B c P (op_iinc i d call K) (x_iinc i (sg d) k) := by
  intro σ c' os h hc ho G L S M hB hS hM
  unfold x_iinc at h
  rw [yat_eq] at h
  cases ha : σ.2.1[i]? with
  | none => rw [ha] at h; cases h
  | some a =>
    rw [ha] at h
    obtain ⟨g1, g2⟩ := svs_at hS.2.1 ha
    rcases a with q | q | q | q | q | q
    · obtain ⟨h1, h2⟩ := gdS_some (show gdS (xk2 σ.2.1 i) _ = _ from h)
      obtain ⟨x, e1, e2, e3⟩ := g1
      obtain ⟨G', p1, p2, p3⟩ := yadd_ok hS.1 (s := 1) (by omega) e3 (yev_c (G := G) (g := 0) (o := sg d))
      have h5 := ks_use hK (σ := ((yadd σ.1 1 q (0, 0, sg d)).1, yst σ.2.1 i (sI (yadd σ.1 1 q (0, 0, sg d)).2), σ.2.2.1, σ.2.2.2.1, σ.2.2.2.2)) (L := nst L i (vI ((x + d) % 4294967296))) (S := S) h2 hc ho (hB.trans p1) ⟨p2, by rw [yst_eq]; exact svs_set (show sv kd G' (sI (yadd σ.1 1 q (0, 0, sg d)).2) (vI ((x + d) % 4294967296)) from ⟨_, rfl, Nat.mod_lt _ (by omega), by rw [p3, sg_add, Int.one_mul]⟩) (svs_mono p1 hS.2.1) i, svs_mono p1 hS.2.2.1, ovl_mono p1 hS.2.2.2⟩ hM
      have e : op_iinc i d call K Ev 466 (Zo + σ.2.2.2.2) L S M = gd (isI (nth L i)) (gd (lk2 L i) (addK (nth L i) (vI d) fun r => K Ev 466 (Zo + σ.2.2.2.2) (nst L i r) S M)) := rfl
      rw [e, e1, xk2_ok hS.2.1 h1]
      show OKo (fN ((x + d) % 4294967296) fun r => K Ev 466 (Zo + σ.2.2.2.2) (nst L i (.inl r)) S M) _
      rw [fN_eq]
      exact h5
    all_goals cases h
/-- a step that takes two ints, gives one -/
noncomputable def x_2 (f : YE → Aff → Aff → YE × Aff) : (SS → SR) → SS → SR := fun k σ => match σ.2.2.1 with
  | .inl y :: S => (match S with
    | .inl x :: S => k ((f σ.1 x y).1, σ.2.1, sI (f σ.1 x y).2 :: S, σ.2.2.2.1, σ.2.2.2.2)
    | _ => none)
  | _ => none
theorem s_2 {f : YE → Aff → Aff → YE × Aff} {g : Nat → Nat → Nat} {op : Op1} (hop : ∀ (E : Env9) (n z : Nat) (L S : List AV) (M : Mem) (x y : Nat), op call K E n z L (vI y :: vI x :: S) M = K E n z L (vI (g x y) :: S) M)
    (hf : ∀ (G : List Int) (E : YE) (x y : Aff) (a b : Nat), yenv G E → a < 4294967296 → b < 4294967296 → yev G x = some (sg a) → yev G y = some (sg b) → ∃ G', G <+: G' ∧ yenv G' (f E x y).1 ∧ g a b < 4294967296 ∧ yev G' (f E x y).2 = some (sg (g a b)))
    (hK : KS kd sh rt bd Wp Inv M0 Ev Zo B c P K k) : KS kd sh rt bd Wp Inv M0 Ev Zo B c P (op call K) (x_2 f k) := by
  intro σ c' os h hc ho G L S M hB hS hM
  obtain ⟨E, Ls, Ss, H, z⟩ := σ
  rcases Ss with _ | ⟨y, Ss⟩
  · cases h
  rcases y with y | y | y | y | y | y
  · rcases Ss with _ | ⟨x, Ss⟩
    · cases h
    rcases x with x | x | x | x | x | x
    · obtain ⟨v, S, rfl, g1, g2⟩ := svs_cons hS.2.2.1
      obtain ⟨u, S, rfl, g3, g4⟩ := svs_cons g2
      obtain ⟨b, rfl, b1, b2⟩ := g1
      obtain ⟨a, rfl, a1, a2⟩ := g3
      obtain ⟨G', p1, p2, p3, p4⟩ := hf G E x y a b hS.1 a1 b1 a2 b2
      have h5 := ks_use hK (σ := ((f E x y).1, Ls, sI (f E x y).2 :: Ss, H, z)) (L := L) (S := vI (g a b) :: S) h hc ho (hB.trans p1) ⟨p2, svs_mono p1 hS.2.1, ⟨⟨_, rfl, p3, p4⟩, svs_mono p1 g4⟩, ovl_mono p1 hS.2.2.2⟩ hM
      show OKo (op call K Ev 466 (Zo + z) L (vI b :: vI a :: S) M) _
      rw [hop]
      exact h5
    all_goals cases h
  all_goals cases h
theorem op_add_n {E : Env9} {n z : Nat} {L S : List AV} {M : Mem} {x y : Nat} : op_add call K E n z L (vI y :: vI x :: S) M = K E n z L (vI ((x + y) % 4294967296) :: S) M := by
  show fN ((x + y) % 4294967296) (fun r => K E n z L (.inl r :: S) M) = _
  rw [fN_eq]
theorem op_bin_n {g : Nat → Nat → Nat} {E : Env9} {n z : Nat} {L S : List AV} {M : Mem} {x y : Nat} : op_bin g call K E n z L (vI y :: vI x :: S) M = K E n z L (vI (g x y) :: S) M := by
  show fN (g x y) (fun r => K E n z L (.inl r :: S) M) = _
  rw [fN_eq]
theorem s_add (hK : KS kd sh rt bd Wp Inv M0 Ev Zo B c P K k) : KS kd sh rt bd Wp Inv M0 Ev Zo B c P (op_add call K) (x_2 (fun E x y => yadd E 1 x y) k) :=
  s_2 (g := fun x y => (x + y) % 4294967296) (fun _ _ _ _ _ _ _ _ => op_add_n) (fun G E x y a b hE _ _ h1 h2 => by
    obtain ⟨G', p1, p2, p3⟩ := yadd_ok hE (s := 1) (by omega) h1 h2
    exact ⟨G', p1, p2, Nat.mod_lt _ (by omega), by rw [p3, sg_add]; simp⟩) hK
theorem s_sub (hK : KS kd sh rt bd Wp Inv M0 Ev Zo B c P K k) : KS kd sh rt bd Wp Inv M0 Ev Zo B c P (op_bin g_sub call K) (x_2 (fun E x y => yadd E (-1) x y) k) :=
  s_2 (g := g_sub) (fun _ _ _ _ _ _ _ _ => op_bin_n) (fun G E x y a b hE _ _ h1 h2 => by
    obtain ⟨G', p1, p2, p3⟩ := yadd_ok hE (s := -1) (by omega) h1 h2
    exact ⟨G', p1, p2, Nat.mod_lt _ (by omega), by rw [p3]; unfold g_sub; rw [sg_sub, show sg a + -1 * sg b = sg a - sg b by omega]⟩) hK
theorem s_mul (hK : KS kd sh rt bd Wp Inv M0 Ev Zo B c P K k) : KS kd sh rt bd Wp Inv M0 Ev Zo B c P (op_bin g_imul call K) (x_2 ymul k) :=
  s_2 (g := g_imul) (fun _ _ _ _ _ _ _ _ => op_bin_n) (fun G E x y a b hE _ _ h1 h2 => by
    obtain ⟨G', p1, p2, p3⟩ := ymul_ok hE h1 h2
    exact ⟨G', p1, p2, toN_lt _, by rw [p3]; unfold g_imul; rw [sg_mul]⟩) hK
/-- any int: of and, a known mask bounds it -/
theorem yfull_ok {G : List Int} {E : YE} (hE : yenv G E) (n : Nat) : ∃ G', G <+: G' ∧ yenv G' (yfull E).1 ∧ yev G' (yfull E).2 = some (sg n) := by
  obtain ⟨h1, h2⟩ := yfresh_ok hE (lo := -2147483648) (hi := 2147483647) (sg_lo n) (sg_hi n)
  exact ⟨_, List.prefix_append _ _, h1, h2⟩
theorem s_any2 {g : Nat → Nat → Nat} (hg : ∀ x y, g x y < 4294967296) (hK : KS kd sh rt bd Wp Inv M0 Ev Zo B c P K k) : KS kd sh rt bd Wp Inv M0 Ev Zo B c P (op_bin g call K) (x_2 (fun E _ _ => yfull E) k) :=
  s_2 (g := g) (fun _ _ _ _ _ _ _ _ => op_bin_n) (fun G E x y a b hE _ _ h1 h2 => by
    obtain ⟨G', p1, p2, p3⟩ := yfull_ok hE (g a b)
    exact ⟨G', p1, p2, hg _ _, p3⟩) hK
noncomputable def yand (E : YE) (x y : Aff) : YE × Aff := Bool.rec (Bool.rec (yfull E) (Bool.rec (yfull E) (yfresh E 0 x.2.2) (ile 0 x.2.2)) (ieq x.2.1 0)) (Bool.rec (yfull E) (yfresh E 0 y.2.2) (ile 0 y.2.2)) (ieq y.2.1 0)
theorem iand_le {a b : Nat} (ha : a < 4294967296) (hb : b < 4294967296) (h0 : 0 ≤ sg b) : 0 ≤ sg (g_iand a b) ∧ sg (g_iand a b) ≤ sg b := by
  have hb2 : b < 2147483648 := by unfold sg bi at h0; omega
  have e : g_iand a b = a &&& b := by
    unfold g_iand toN nI
    simp
    have : a &&& b ≤ b := Nat.and_le_right
    rw [Nat.mod_eq_of_lt ha, Nat.mod_eq_of_lt hb]
  have h1 : a &&& b ≤ b := Nat.and_le_right
  rw [e, sg_eq (by omega), sg_eq (by omega)]
  omega
theorem iand_comm (a b : Nat) : g_iand a b = g_iand b a := by
  unfold g_iand
  congr 1
  apply Int32.toBitVec_inj.mp
  simp [BitVec.and_comm]
theorem s_and (hK : KS kd sh rt bd Wp Inv M0 Ev Zo B c P K k) : KS kd sh rt bd Wp Inv M0 Ev Zo B c P (op_bin g_iand call K) (x_2 yand k) :=
  s_2 (g := g_iand) (fun _ _ _ _ _ _ _ _ => op_bin_n) (fun G E x y a b hE ha hb h1 h2 => by
    have any : ∃ G', G <+: G' ∧ yenv G' (yfull E).1 ∧ g_iand a b < 4294967296 ∧ yev G' (yfull E).2 = some (sg (g_iand a b)) := by
      obtain ⟨G', p1, p2, p3⟩ := yfull_ok hE (g_iand a b)
      exact ⟨G', p1, p2, toN_lt _, p3⟩
    unfold yand
    cases e1 : ieq y.2.1 0 with
    | true =>
      rcases yev_some h2 with ⟨k1, k2⟩ | ⟨k1, _⟩
      · cases e2 : ile 0 y.2.2 with
        | false => exact any
        | true =>
          have e2 := ile_iff.mp e2
          obtain ⟨q1, q2⟩ := iand_le ha hb (by omega)
          obtain ⟨r1, r2⟩ := yfresh_ok hE (lo := 0) (hi := y.2.2) q1 (by omega)
          exact ⟨_, List.prefix_append _ _, r1, toN_lt _, r2⟩
      · exact absurd (ieq_iff.mp e1) k1
    | false =>
      cases e3 : ieq x.2.1 0 with
      | false => exact any
      | true =>
        rcases yev_some h1 with ⟨k1, k2⟩ | ⟨k1, _⟩
        · cases e2 : ile 0 x.2.2 with
          | false => exact any
          | true =>
            have e2 := ile_iff.mp e2
            obtain ⟨q1, q2⟩ := iand_le hb ha (by omega)
            rw [iand_comm] at q1 q2
            obtain ⟨r1, r2⟩ := yfresh_ok hE (lo := 0) (hi := x.2.2) q1 (by omega)
            exact ⟨_, List.prefix_append _ _, r1, toN_lt _, r2⟩
        · exact absurd (ieq_iff.mp e3) k1) hK
end OPS1
