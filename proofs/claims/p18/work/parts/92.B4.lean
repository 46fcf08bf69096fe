/-! floating numbers, a row's copy, a call whose throws are caught -/
theorem and63 (a : UInt64) : (a &&& 0x7fffffffffffffff).toNat = a.toNat % 2 ^ 63 := by
  rw [UInt64.toNat_and]
  exact Nat.and_two_pow_sub_one_eq_mod _ 63
theorem and31 (a : UInt32) : (a &&& 0x7fffffff).toNat = a.toNat % 2 ^ 31 := by
  rw [UInt32.toNat_and]
  exact Nat.and_two_pow_sub_one_eq_mod _ 31
theorem nn64 {a : UInt64} (h : Jvm.FP.Core.dIsNaN a = false) : Nat.ble ((a &&& 0x7fffffffffffffff).toNat) 9218868437227405312 = true := by
  rw [and63]
  refine Nat.ble_eq_true_of_le (Nat.le_of_not_lt fun q => ?_)
  rw [(Jvm.FP.Core.isNaN_bits a).mpr q] at h
  cases h
theorem nn32 {a : UInt32} (h : Jvm.FP.Core.fIsNaN a = false) : (a &&& 0x7fffffff).toNat ≤ 2139095040 := by
  rw [and31]
  refine Nat.le_of_not_lt fun q => ?_
  rw [(Jvm.FP.Core.isNaN_bits32 a).mpr q] at h
  cases h
theorem nn32' {a : UInt32} (h : (a &&& 0x7fffffff).toNat ≤ 2139095040) : Jvm.FP.Core.fIsNaN a = false := by
  rw [and31] at h
  cases hb : Jvm.FP.Core.fIsNaN a with
  | false => rfl
  | true => have := (Jvm.FP.Core.isNaN_bits32 a).mp hb; omega
theorem i2d_nn (x : Int32) : Jvm.FP.Core.dIsNaN (Jvm.FP.Core.i2d x) = false := by
  cases hb : Jvm.FP.Core.dIsNaN (Jvm.FP.Core.i2d x) with
  | false => rfl
  | true =>
    have h1 := (Jvm.FP.Core.isNaN_bits _).mp hb
    have h2 := (Jvm.FP.Core.fin_bits _).mp (Jvm.FP.Core.i2d_fin x)
    omega
theorem i2f_nn (x : Int32) : Jvm.FP.Core.fIsNaN (Jvm.FP.Core.i2f x) = false := by
  cases hb : Jvm.FP.Core.fIsNaN (Jvm.FP.Core.i2f x) with
  | false => rfl
  | true =>
    have h1 := (Jvm.FP.Core.isNaN_bits32 _).mp hb
    have h2 := (Jvm.FP.Core.fin_bits32 _).mp (Jvm.FP.Core.i2f_fin x)
    omega
theorem i2d_nz {x : Int32} (h : x.toInt ≠ 0) : ¬ Jvm.FP.Core.DZero (Jvm.FP.Core.i2d x) := by
  intro hz
  have h1 := Jvm.FP.Core.i2d_big h
  have h2 := (Jvm.FP.Core.zero_bits2 _).mp hz
  omega
theorem i2f_nz {x : Int32} (h : x.toInt ≠ 0) : ¬ Jvm.FP.Core.FZero (Jvm.FP.Core.i2f x) := by
  intro hz
  have h1 := Jvm.FP.Core.i2f_big h
  have h2 := (Jvm.FP.Core.zero_bits232 _).mp hz
  omega
theorem ddiv_nn {x y : Nat} (h : sg y ≠ 0) : Nat.ble ((FP.ddiv (UInt64.ofNat (FP.i2d (nI x)).toNat) (UInt64.ofNat (FP.i2d (nI y)).toNat) &&& 0x7fffffffffffffff).toNat) 9218868437227405312 = true := by
  rw [UInt64.ofNat_toNat, UInt64.ofNat_toNat]
  exact nn64 (Jvm.FP.Core.ddiv_out (i2d_nn _) (Jvm.FP.Core.i2d_fin _) (i2d_nz (by rw [sg_toInt]; exact h)))
theorem fdiv_nn {x y : Nat} (h : sg y ≠ 0) : (FP.fdiv (UInt32.ofNat (FP.i2f (nI x)).toNat) (UInt32.ofNat (FP.i2f (nI y)).toNat) &&& 0x7fffffff).toNat ≤ 2139095040 := by
  rw [UInt32.ofNat_toNat, UInt32.ofNat_toNat]
  exact nn32 (Jvm.FP.Core.fdiv_out (i2f_nn _) (Jvm.FP.Core.i2f_fin _) (i2f_nz (by rw [sg_toInt]; exact h)))
theorem f2d_nn {n : Nat} (h : (UInt32.ofNat n &&& 0x7fffffff).toNat ≤ 2139095040) : Nat.ble ((FP.f2d (UInt32.ofNat n) &&& 0x7fffffffffffffff).toNat) 9218868437227405312 = true := by
  have h1 := nn32' h
  have e : FP.f2d (UInt32.ofNat n) = Jvm.FP.Core.f2d (UInt32.ofNat n) := by
    unfold FP.f2d
    rw [h1]
    rfl
  rw [e]
  exact nn64 (Jvm.FP.Core.f2d_out h1)
section OPS5
variable {kd : Nat → Nat} {sh : Nat → Sh} {rt : Nat → Nat → Nat} {bd : Nat → Int → Int × Int} {Wp PR : Nat → Int → Bool} {Inv : Mem → Prop} {M0 : Mem} {Ev : Env9} {Zo : Nat} {B : List Int} {c : Nat} {P : Res → Prop} {K : KK} {k : SS → SR} {call : Call} {un : Nat → Bool}
/-- it surely isn't 0 -/
noncomputable def ynz (E : YE) (q : Aff) : Bool := match yrg E q with | some r => Bool.rec (ile r.2 (-1)) true (ile 1 r.1) | none => false
theorem ynz_ok {G : List Int} {E : YE} (hE : yenv G E) {q : Aff} {v : Int} (hv : yev G q = some v) (h : ynz E q = true) : v ≠ 0 := by
  unfold ynz at h
  cases hr : yrg E q with
  | none => rw [hr] at h; cases h
  | some r =>
    rw [hr] at h
    have q1 := yrg_ok hE hv hr
    have h : (Bool.rec (ile r.2 (-1)) true (ile 1 r.1) : Bool) = true := h
    cases h1 : ile 1 r.1 with
    | true => have := ile_iff.mp h1; omega
    | false => rw [h1] at h; have := ile_iff.mp (show ile r.2 (-1) = true from h); omega
noncomputable def ytg (t : Nat) (b : Bool) : Nat := match b with | true => t + 1 | false => t
noncomputable def x_i2x (t : Nat) : (SS → SR) → SS → SR := fun k σ => match σ.2.2.1 with
  | .inl q :: S => k (σ.1, σ.2.1, sT (ytg t (ynz σ.1 q)) :: S, σ.2.2.2.1, σ.2.2.2.2)
  | _ => none
theorem s_i2d (hK : KS kd sh rt bd Wp Inv M0 Ev Zo B c P K k) : KS kd sh rt bd Wp Inv M0 Ev Zo B c P (op_i2d call K) (x_i2x 4 k) := by
  intro σ c' os h hc ho G L S M hB hS hM
  obtain ⟨E, Ls, Ss, H, z⟩ := σ
  rcases Ss with _ | ⟨a, Ss⟩
  · cases h
  rcases a with q | q | q | q | q | q
  · obtain ⟨v, S, rfl, g1, g2⟩ := svs_cons hS.2.2.1
    obtain ⟨x, rfl, x1, x2⟩ := g1
    show OKo (K Ev 466 (Zo + z) L (vD (FP.i2d (nI x)).toNat :: S) M) _
    refine ks_use hK (σ := (E, Ls, sT (ytg 4 (ynz E q)) :: Ss, H, z)) h hc ho hB ⟨hS.1, hS.2.1, ⟨?_, g2⟩, hS.2.2.2⟩ hM
    cases hz : ynz E q with
    | false => exact ⟨x, rfl⟩
    | true => exact ⟨x, ynz_ok hS.1 x2 hz, rfl⟩
  all_goals cases h
theorem s_i2f (hK : KS kd sh rt bd Wp Inv M0 Ev Zo B c P K k) : KS kd sh rt bd Wp Inv M0 Ev Zo B c P (op_i2f call K) (x_i2x 6 k) := by
  intro σ c' os h hc ho G L S M hB hS hM
  obtain ⟨E, Ls, Ss, H, z⟩ := σ
  rcases Ss with _ | ⟨a, Ss⟩
  · cases h
  rcases a with q | q | q | q | q | q
  · obtain ⟨v, S, rfl, g1, g2⟩ := svs_cons hS.2.2.1
    obtain ⟨x, rfl, x1, x2⟩ := g1
    show OKo (K Ev 466 (Zo + z) L (vF (FP.i2f (nI x)).toNat :: S) M) _
    refine ks_use hK (σ := (E, Ls, sT (ytg 6 (ynz E q)) :: Ss, H, z)) h hc ho hB ⟨hS.1, hS.2.1, ⟨?_, g2⟩, hS.2.2.2⟩ hM
    cases hz : ynz E q with
    | false => exact ⟨x, rfl⟩
    | true => exact ⟨x, ynz_ok hS.1 x2 hz, rfl⟩
  all_goals cases h
noncomputable def isT (a : SV) (t : Nat) : Bool := match a with | .inr (.inr (.inr (.inr (.inr u)))) => Nat.beq u t | _ => false
theorem isT_eq {a : SV} {t : Nat} (h : isT a t = true) : a = sT t := by
  rcases a with q | q | q | q | q | u
  · cases h
  · cases h
  · cases h
  · cases h
  · cases h
  · rw [Nat.eq_of_beq_eq_true (show Nat.beq u t = true from h)]
noncomputable def x_div (t r : Nat) : (SS → SR) → SS → SR := fun k σ => match σ.2.2.1 with
  | b :: S => (match S with
    | a :: S => gdS (isT b (t + 1)) (gdS (Bool.rec (isT a (t + 1)) true (isT a t)) (k (σ.1, σ.2.1, sT r :: S, σ.2.2.2.1, σ.2.2.2.2)))
    | [] => none)
  | [] => none
theorem s_ddiv (hK : KS kd sh rt bd Wp Inv M0 Ev Zo B c P K k) : KS kd sh rt bd Wp Inv M0 Ev Zo B c P (op_ddiv call K) (x_div 4 1 k) := by
  intro σ c' os h hc ho G L S M hB hS hM
  obtain ⟨E, Ls, Ss, H, z⟩ := σ
  rcases Ss with _ | ⟨b, Ss⟩
  · cases h
  rcases Ss with _ | ⟨a, Ss⟩
  · cases h
  obtain ⟨v, S, rfl, g1, g2⟩ := svs_cons hS.2.2.1
  obtain ⟨u, S, rfl, g3, g4⟩ := svs_cons g2
  obtain ⟨h1, h⟩ := gdS_some (show gdS (isT b 5) _ = _ from h)
  obtain ⟨h2, h⟩ := gdS_some h
  have h1 := isT_eq h1
  subst h1
  obtain ⟨y, y1, rfl⟩ := g1
  obtain ⟨x, rfl⟩ : ∃ x, u = vD (FP.i2d (nI x)).toNat := by
    cases h3 : isT a 4 with
    | true => have h3 := isT_eq h3; subst h3; exact g3
    | false => rw [h3] at h2; have h2 := isT_eq (show isT a 5 = true from h2); subst h2; obtain ⟨x, _, e⟩ := g3; exact ⟨x, e⟩
  show OKo (gd (Nat.ble ((FP.ddiv (UInt64.ofNat (FP.i2d (nI x)).toNat) (UInt64.ofNat (FP.i2d (nI y)).toNat) &&& 0x7fffffffffffffff).toNat) 9218868437227405312) (K Ev 466 (Zo + z) L (vD (FP.ddiv (UInt64.ofNat (FP.i2d (nI x)).toNat) (UInt64.ofNat (FP.i2d (nI y)).toNat)).toNat :: S) M)) _
  rw [ddiv_nn y1]
  exact ks_use hK (σ := (E, Ls, sT 1 :: Ss, H, z)) h hc ho hB ⟨hS.1, hS.2.1, ⟨⟨_, rfl⟩, g4⟩, hS.2.2.2⟩ hM
theorem s_fdiv (hK : KS kd sh rt bd Wp Inv M0 Ev Zo B c P K k) : KS kd sh rt bd Wp Inv M0 Ev Zo B c P (op_fdiv call K) (x_div 6 8 k) := by
  intro σ c' os h hc ho G L S M hB hS hM
  obtain ⟨E, Ls, Ss, H, z⟩ := σ
  rcases Ss with _ | ⟨b, Ss⟩
  · cases h
  rcases Ss with _ | ⟨a, Ss⟩
  · cases h
  obtain ⟨v, S, rfl, g1, g2⟩ := svs_cons hS.2.2.1
  obtain ⟨u, S, rfl, g3, g4⟩ := svs_cons g2
  obtain ⟨h1, h⟩ := gdS_some (show gdS (isT b 7) _ = _ from h)
  obtain ⟨h2, h⟩ := gdS_some h
  have h1 := isT_eq h1
  subst h1
  obtain ⟨y, y1, rfl⟩ := g1
  obtain ⟨x, rfl⟩ : ∃ x, u = vF (FP.i2f (nI x)).toNat := by
    cases h3 : isT a 6 with
    | true => have h3 := isT_eq h3; subst h3; exact g3
    | false => rw [h3] at h2; have h2 := isT_eq (show isT a 7 = true from h2); subst h2; obtain ⟨x, _, e⟩ := g3; exact ⟨x, e⟩
  show OKo (gd (Nat.ble ((FP.fdiv (UInt32.ofNat (FP.i2f (nI x)).toNat) (UInt32.ofNat (FP.i2f (nI y)).toNat) &&& 0x7fffffff).toNat) 2139095040) (K Ev 466 (Zo + z) L (vF (FP.fdiv (UInt32.ofNat (FP.i2f (nI x)).toNat) (UInt32.ofNat (FP.i2f (nI y)).toNat)).toNat :: S) M)) _
  rw [Nat.ble_eq_true_of_le (fdiv_nn y1)]
  exact ks_use hK (σ := (E, Ls, sT 8 :: Ss, H, z)) h hc ho hB ⟨hS.1, hS.2.1, ⟨⟨_, rfl, by rw [UInt32.ofNat_toNat]; exact fdiv_nn y1⟩, g4⟩, hS.2.2.2⟩ hM
noncomputable def x_f2d : (SS → SR) → SS → SR := fun k σ => match σ.2.2.1 with
  | a :: S => gdS (isT a 8) (k (σ.1, σ.2.1, sT 1 :: S, σ.2.2.2.1, σ.2.2.2.2))
  | [] => none
theorem s_f2d (hK : KS kd sh rt bd Wp Inv M0 Ev Zo B c P K k) : KS kd sh rt bd Wp Inv M0 Ev Zo B c P (op_f2d call K) (x_f2d k) := by
  intro σ c' os h hc ho G L S M hB hS hM
  obtain ⟨E, Ls, Ss, H, z⟩ := σ
  rcases Ss with _ | ⟨a, Ss⟩
  · cases h
  obtain ⟨v, S, rfl, g1, g2⟩ := svs_cons hS.2.2.1
  obtain ⟨h1, h⟩ := gdS_some (show gdS (isT a 8) _ = _ from h)
  have h1 := isT_eq h1
  subst h1
  obtain ⟨n, rfl, n1⟩ := g1
  show OKo (gd (Nat.ble ((FP.f2d (UInt32.ofNat n) &&& 0x7fffffffffffffff).toNat) 9218868437227405312) (K Ev 466 (Zo + z) L (vD (FP.f2d (UInt32.ofNat n)).toNat :: S) M)) _
  rw [f2d_nn n1]
  exact ks_use hK (σ := (E, Ls, sT 1 :: Ss, H, z)) h hc ho hB ⟨hS.1, hS.2.1, ⟨⟨_, rfl⟩, g2⟩, hS.2.2.2⟩ hM
end OPS5
