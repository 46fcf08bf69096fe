/-! rows written; references; longs; the other steps -/
section OPS3
variable {kd : Nat → Nat} {sh : Nat → Sh} {rt : Nat → Nat → Nat} {bd : Nat → Int → Int × Int} {Wp PR : Nat → Int → Bool} {Inv : Mem → Prop} {M0 : Mem} {Ev : Env9} {Zo : Nat} {B : List Int} {c : Nat} {P : Res → Prop} {K : KK} {k : SS → SR} {call : Call} {un : Nat → Bool}
/-- the number fits all places -/
noncomputable def yfits (bd : Nat → Int → Int × Int) (un : Nat → Bool) (E : YE) (κ : Nat) (ix x : Aff) : Bool := Bool.rec (match yrg E x with | some r => yix E ix fun v => Bool.rec false (ile r.2 (bd κ v).2) (ile (bd κ v).1 r.1) | none => false) (yin (yrg E x) (bd κ 0)) (un κ)
theorem yfits_ok (hu : ∀ κ v, un κ = true → bd κ v = bd κ 0) {G : List Int} {E : YE} (hE : yenv G E) {κ : Nat} {ix x : Aff} {i v : Int} (hi : yev G ix = some i) (hx : yev G x = some v) (h : yfits bd un E κ ix x = true) : (bd κ i).1 ≤ v ∧ v ≤ (bd κ i).2 := by
  unfold yfits at h
  cases hun : un κ with
  | true => rw [hun] at h; rw [hu κ i hun]; exact yin_ok hE hx h
  | false =>
    rw [hun] at h
    have h : (match yrg E x with | some r => yix E ix fun v => Bool.rec false (ile r.2 (bd κ v).2) (ile (bd κ v).1 r.1) | none => false : Bool) = true := h
    cases hr : yrg E x with
    | none => rw [hr] at h; cases h
    | some r =>
      rw [hr] at h
      obtain ⟨k1, k2⟩ := band (yix_ok (p := fun v => Bool.rec false (ile r.2 (bd κ v).2) (ile (bd κ v).1 r.1)) hE h hi)
      have k1 := ile_iff.mp k1
      have k2 := ile_iff.mp k2
      have q1 := yrg_ok hE hx hr
      omega
/-- a write of an int in a row; bz: 0 int, 1 byte, 2 boolean -/
noncomputable def ynb (E : YE) (bz : Nat) (x : Aff) : YE × Aff := match bz with
  | 1 => Bool.rec (yfresh E (-128) 127) (E, x) (yin (yrg E x) (-128, 127))
  | _ => (E, x)
noncomputable def x_ast (kd : Nat → Nat) (sh : Nat → Sh) (bd : Nat → Int → Int × Int) (un : Nat → Bool) (Wp PR : Nat → Int → Bool) (ba : Bool) : (SS → SR) → SS → SR := fun k σ => match σ.2.2.1 with
  | .inl x :: S => (match S with
    | .inl ix :: S => (match S with
      | .inr (.inr (.inl r)) :: S => (match sh (kdR kd r) with
        | .inr (.inl q) => gdS (Bool.rec (Nat.beq q.1 0) (Nat.ble 1 q.1) ba) (gdS (Nat.ble q.1 2) (gdS (Bool.rec true (yin (yrg σ.1 x) (0, 1)) (Nat.beq q.1 2)) (gdS (yin (yrg σ.1 ix) (0, (q.2 : Int) - 1))
          (let w := ynb σ.1 q.1 x
          gdS (yfits bd un w.1 (kdR kd r) ix w.2) (gdS (yix w.1 ix (ywp Wp PR (kdR kd r)))
            (k (w.1, σ.2.1, S, ((r, ix), w.2) :: ydrop kd w.1 r ix σ.2.2.2.1, σ.2.2.2.2)))))))
        | _ => none)
      | _ => none)
    | _ => none)
  | _ => none
theorem op_iast_n {E : Env9} {n z a j N p x : Nat} {L S : List AV} {M : Mem} (h : tget 9 M a = cI 0 N p []) (hj : j < N) : op_iast call K E n z L (vI x :: vI j :: vR a :: S) M = K E n z L S (tset 9 M a (cI 0 N (pset p j x) [])) := by
  show gd (isI (vI x)) (match tget 9 M a with | .inr (.inl q) => gd (Nat.beq q.1 0) (gd (Nat.ble (j + 1) q.2.1) (aset q j (vI x) fun c => K E n z L S (tset 9 M a c))) | _ => none : OR) = _
  rw [h]
  show gd (Nat.ble (j + 1) N) (fN (pset p j x) fun p' => K E n z L S (tset 9 M a (cI 0 N p' (orm [] j)))) = _
  rw [Nat.ble_eq_true_of_le (show j + 1 ≤ N from hj), fN_eq]
  rfl
theorem op_bast1_n {E : Env9} {n z a j N p x : Nat} {L S : List AV} {M : Mem} (h : tget 9 M a = cI 1 N p []) (hj : j < N) : op_bast call K E n z L (vI x :: vI j :: vR a :: S) M = K E n z L S (tset 9 M a (cI 1 N (pset p j (toN (nI x).toInt8.toInt32)) [])) := by
  have e : op_bast call K E n z L (vI x :: vI j :: vR a :: S) M = gd (isI (vI x)) (match tget 9 M a with
    | .inr (.inl q) => gd (Nat.ble (j + 1) q.2.1) (Bool.rec
        (gd (Nat.beq q.1 1) (unK (fun x => toN (nI x).toInt8.toInt32) (vI x) fun v => aset q j v fun c => K E n z L S (tset 9 M a c)))
        (gd (isZ (vI x)) (aset q j (vI x) fun c => K E n z L S (tset 9 M a c))) (Nat.beq q.1 2))
    | _ => none) := rfl
  rw [e, h]
  show gd (Nat.ble (j + 1) N) (fN (toN (nI x).toInt8.toInt32) fun r => fN (pset p j r) fun p' => K E n z L S (tset 9 M a (cI 1 N p' (orm [] j)))) = _
  rw [Nat.ble_eq_true_of_le (show j + 1 ≤ N from hj), fN_eq, fN_eq]
  rfl
theorem op_bast2_n {E : Env9} {n z a j N p x : Nat} {L S : List AV} {M : Mem} (h : tget 9 M a = cI 2 N p []) (hj : j < N) (hx : x ≤ 1) : op_bast call K E n z L (vI x :: vI j :: vR a :: S) M = K E n z L S (tset 9 M a (cI 2 N (pset p j x) [])) := by
  have e : op_bast call K E n z L (vI x :: vI j :: vR a :: S) M = gd (isI (vI x)) (match tget 9 M a with
    | .inr (.inl q) => gd (Nat.ble (j + 1) q.2.1) (Bool.rec
        (gd (Nat.beq q.1 1) (unK (fun x => toN (nI x).toInt8.toInt32) (vI x) fun v => aset q j v fun c => K E n z L S (tset 9 M a c)))
        (gd (isZ (vI x)) (aset q j (vI x) fun c => K E n z L S (tset 9 M a c))) (Nat.beq q.1 2))
    | _ => none) := rfl
  rw [e, h]
  show gd (Nat.ble (j + 1) N) (gd (Nat.ble x 1) (fN (pset p j x) fun p' => K E n z L S (tset 9 M a (cI 2 N p' (orm [] j))))) = _
  rw [Nat.ble_eq_true_of_le (show j + 1 ≤ N from hj), Nat.ble_eq_true_of_le hx, fN_eq]
  rfl
theorem i8_in (x : Nat) : -128 ≤ sg (toN (nI x).toInt8.toInt32) ∧ sg (toN (nI x).toInt8.toInt32) ≤ 127 := by
  rw [sg_toN]
  have h1 := (nI x).toInt8.le_toInt
  have h2 := (nI x).toInt8.toInt_le
  have e : (nI x).toInt8.toInt32.toInt = (nI x).toInt8.toInt := by simp
  rw [e]
  constructor
  · exact Int.le_trans (by decide) h1
  · exact Int.le_trans h2 (by decide)
theorem i8_id {x : Nat} (h1 : -128 ≤ sg x) (h2 : sg x ≤ 127) : sg (toN (nI x).toInt8.toInt32) = sg x := by
  rw [sg_toN]
  have e : (nI x).toInt8.toInt32.toInt = (nI x).toInt8.toInt := by simp
  have e2 : (nI x).toInt8.toInt = (nI x).toInt.bmod 256 := by simp
  rw [e, e2, sg_toInt, Int.bmod_def]
  split <;> omega
theorem ca_set {kc t N p i x : Nat} {κ : Nat} (hkd : kd kc = κ) (hs : sh κ = .inr (.inl (t, N))) (hN : N ≤ 100000) (h : ∀ j : Nat, j < N → (bd κ j).1 ≤ sg (pget p j) ∧ sg (pget p j) ≤ (bd κ j).2) (hx : x < 4294967296) (hb : (bd κ i).1 ≤ sg x ∧ sg x ≤ (bd κ i).2) : cOK kd sh rt bd kc (cI t N (pset p i x) []) := by
  unfold cOK
  rw [hkd, hs]
  refine ⟨_, rfl, hN, fun j hj => ?_⟩
  rw [pget_pset]
  by_cases e : j = i
  · rw [if_pos e, Nat.mod_eq_of_lt hx, e]; exact hb
  · rw [if_neg e]; exact h j hj
theorem s_ast (hu : ∀ κ v, un κ = true → bd κ v = bd κ 0) (hI : Hang kd PR Inv) (hK : KS kd sh rt bd Wp Inv M0 Ev Zo B c P K k) (ba : Bool) : KS kd sh rt bd Wp Inv M0 Ev Zo B c P ((Bool.rec op_iast op_bast ba : Op1) call K) (x_ast kd sh bd un Wp PR ba k) := by
  intro σ c' os h hc ho G L S M hB hS hM
  obtain ⟨E, Ls, Ss, H, z⟩ := σ
  rcases Ss with _ | ⟨a, Ss⟩
  · cases h
  rcases a with x | q | q | q | q | q
  · rcases Ss with _ | ⟨a2, Ss⟩
    · cases h
    rcases a2 with ix | q | q | q | q | q
    · rcases Ss with _ | ⟨a3, Ss⟩
      · cases h
      rcases a3 with q | q | r | q | q | q
      · cases h
      · cases h
      · obtain ⟨v, S, rfl, g1, g2⟩ := svs_cons hS.2.2.1
        obtain ⟨u, S, rfl, g3, g4⟩ := svs_cons g2
        obtain ⟨w, S, rfl, g5, g6⟩ := svs_cons g4
        obtain ⟨kc, rfl, g5⟩ := g5
        obtain ⟨j, rfl, j1, j2⟩ := g3
        obtain ⟨n, rfl, n1, n2⟩ := g1
        have hkd := rkc_kd g5
        cases hs : sh (kdR kd r) with
        | inl q => unfold x_ast at h; simp only [hs] at h; cases h
        | inr q =>
          rcases q with q | q
          · unfold x_ast at h
            simp only [hs] at h
            obtain ⟨h1, h⟩ := gdS_some h
            obtain ⟨h2, h⟩ := gdS_some h
            obtain ⟨h3, h⟩ := gdS_some h
            obtain ⟨h4, h⟩ := gdS_some h
            obtain ⟨h5, h⟩ := gdS_some h
            obtain ⟨h6, h⟩ := gdS_some h
            obtain ⟨t, N⟩ := q
            obtain ⟨p, f1, f2, f3⟩ := co_arr hM.1 g5.1 (by rw [hkd]; exact hs)
            obtain ⟨j3, j4⟩ := ix_nat hS.1 j1 j2 f2 h4
            rw [hkd] at f3
            -- what is stored
            have key : ∀ (n' : Nat) (G' : List Int), G <+: G' → yenv G' (ynb E t x).1 → n' < 4294967296 → yev G' (ynb E t x).2 = some (sg n') → OKo (K Ev 466 (Zo + z) L S (tset 9 M kc (cI t N (pset p j n') []))) P := by
              intro n' G' p1 p2 p3 p4
              have j5 := yev_mono p1 j4
              have b1 := yfits_ok hu p2 j5 p4 h5
              obtain ⟨w1, w2⟩ := ywp_ok (yix_ok p2 h6 j5)
              have hw := wrt_a (i := j) g5.1 f1 p3
              have hT : TI kd sh rt bd (tset 9 M kc (cI t N (pset p j n') [])) := ti_set hM.1 g5.1 (ca_set hkd hs f2 f3 p3 b1)
              exact ks_use hK (σ := ((ynb E t x).1, Ls, Ss, ((r, ix), (ynb E t x).2) :: ydrop kd (ynb E t x).1 r ix H, z)) h hc ho (hB.trans p1) ⟨p2, svs_mono p1 hS.2.1, svs_mono p1 g6, ovl_w p2 hw (rkc_mono p1 g5) j5 p4 (ovl_mono p1 hS.2.2.2)⟩ (gm_w hI hw hT (by rw [hkd]; exact w2) (by rw [hkd]; exact w1) hM)
            cases ba with
            | false =>
              have h1 : t = 0 := Nat.eq_of_beq_eq_true h1
              subst h1
              show OKo (op_iast call K Ev 466 (Zo + z) L (vI n :: vI j :: vR kc :: S) M) _
              rw [op_iast_n f1 j3]
              exact key n G (List.prefix_refl _) hS.1 n1 n2
            | true =>
              have h1 : 1 ≤ t := Nat.le_of_ble_eq_true h1
              have h2 : t ≤ 2 := Nat.le_of_ble_eq_true h2
              show OKo (op_bast call K Ev 466 (Zo + z) L (vI n :: vI j :: vR kc :: S) M) _
              rcases (show t = 1 ∨ t = 2 by omega) with e | e
              · subst e
                rw [op_bast1_n f1 j3]
                cases hy : yin (yrg E x) (-128, 127) with
                | true =>
                  obtain ⟨q1, q2⟩ := yin_ok hS.1 n2 hy
                  have e9 : ynb E 1 x = (E, x) := by
                    show (Bool.rec (yfresh E (-128) 127) (E, x) (yin (yrg E x) (-128, 127)) : YE × Aff) = _
                    rw [hy]
                  exact key _ G (List.prefix_refl _) (by rw [e9]; exact hS.1) (toN_lt _) (by rw [e9, i8_id q1 q2]; exact n2)
                | false =>
                  have e9 : ynb E 1 x = yfresh E (-128) 127 := by
                    show (Bool.rec (yfresh E (-128) 127) (E, x) (yin (yrg E x) (-128, 127)) : YE × Aff) = _
                    rw [hy]
                  obtain ⟨q1, q2⟩ := i8_in n
                  obtain ⟨r1, r2⟩ := yfresh_ok hS.1 (lo := -128) (hi := 127) q1 q2
                  exact key _ _ (List.prefix_append _ _) (by rw [e9]; exact r1) (toN_lt _) (by rw [e9]; exact r2)
              · subst e
                obtain ⟨q1, q2⟩ := yin_ok hS.1 n2 (show yin (yrg E x) (0, 1) = true from h3)
                have n3 : n ≤ 1 := sg_small n1 (n := 1) (by omega) q1 q2
                rw [op_bast2_n f1 j3 n3]
                exact key n G (List.prefix_refl _) hS.1 n1 n2
          · unfold x_ast at h
            simp only [hs] at h
            cases h
      all_goals cases h
    all_goals cases h
  all_goals cases h
noncomputable def x_aald (kd : Nat → Nat) (sh : Nat → Sh) (rt : Nat → Nat → Nat) : (SS → SR) → SS → SR := fun k σ => match σ.2.2.1 with
  | .inl ix :: S => (match S with
    | .inr (.inr (.inl r)) :: S => (match sh (kdR kd r) with
      | .inr (.inr (.inl q)) => gdS (Nat.ble q.2.1 100000) (gdS (yin (yrg σ.1 ix) (0, (q.2.1 : Int) - 1)) (match r with
        | .inl cc => Bool.rec (k ((yref σ.1 q.2.2).1, σ.2.1, (yref σ.1 q.2.2).2 :: S, σ.2.2.2.1, σ.2.2.2.2)) (k (σ.1, σ.2.1, sR (.inl (rt cc ix.2.2.toNat)) :: S, σ.2.2.2.1, σ.2.2.2.2)) (ieq ix.2.1 0)
        | .inr _ => k ((yref σ.1 q.2.2).1, σ.2.1, (yref σ.1 q.2.2).2 :: S, σ.2.2.2.1, σ.2.2.2.2)))
      | _ => none)
    | _ => none)
  | _ => none
theorem op_aald_n {E : Env9} {n z a j ci : Nat} {L S xs : List AV} {M : Mem} (h : tget 9 M a = cQ ci xs) (hj : j < xs.length) : op_aald call K E n z L (vI j :: vR a :: S) M = K E n z L (nth xs j :: S) M := by
  show (match tget 9 M a with | .inr (.inr (.inl q)) => gd (Nat.ble (j + 1) q.2.length) (K E n z L (nth q.2 j :: S) M) | _ => none : OR) = _
  rw [h]
  show gd (Nat.ble (j + 1) xs.length) (K E n z L (nth xs j :: S) M) = _
  rw [Nat.ble_eq_true_of_le (show j + 1 ≤ xs.length from hj)]
  rfl
theorem s_aald (hK : KS kd sh rt bd Wp Inv M0 Ev Zo B c P K k) : KS kd sh rt bd Wp Inv M0 Ev Zo B c P (op_aald call K) (x_aald kd sh rt k) := by
  intro σ c' os h hc ho G L S M hB hS hM
  obtain ⟨E, Ls, Ss, H, z⟩ := σ
  rcases Ss with _ | ⟨a, Ss⟩
  · cases h
  rcases a with ix | q | q | q | q | q
  · rcases Ss with _ | ⟨b, Ss⟩
    · cases h
    rcases b with q | q | r | q | q | q
    · cases h
    · cases h
    · obtain ⟨v, S, rfl, g1, g2⟩ := svs_cons hS.2.2.1
      obtain ⟨u, S, rfl, g3, g4⟩ := svs_cons g2
      obtain ⟨kc, rfl, g3⟩ := g3
      obtain ⟨j, rfl, j1, j2⟩ := g1
      have hkd := rkc_kd g3
      show OKo (op_aald call K Ev 466 (Zo + z) L (vI j :: vR kc :: S) M) _
      cases hs : sh (kdR kd r) with
      | inl q => unfold x_aald at h; simp only [hs] at h; cases h
      | inr q =>
        rcases q with q | q | q
        · unfold x_aald at h; simp only [hs] at h; cases h
        · unfold x_aald at h
          simp only [hs] at h
          obtain ⟨h0, h⟩ := gdS_some h
          obtain ⟨h1, h⟩ := gdS_some h
          obtain ⟨xs, f1, f2, f3⟩ := co_ref hM.1 g3.1 (by rw [hkd]; exact hs)
          obtain ⟨j3, j4⟩ := ix_nat hS.1 j1 j2 (Nat.le_of_ble_eq_true h0) h1
          rw [op_aald_n f1 (by rw [f2]; exact j3)]
          obtain ⟨e1, e2, e3⟩ := f3 j j3
          rw [e1]
          have any : k ((yref E q.2.2).1, Ls, (yref E q.2.2).2 :: Ss, H, z) = some (c', os) → OKo (K Ev 466 (Zo + z) L (vR (rt kc j) :: S) M) P := by
            intro h
            obtain ⟨p1, p2⟩ := yref_ok hS.1 e2 e3
            have hp : G <+: G ++ [(rt kc j : Int)] := List.prefix_append _ _
            exact ks_use hK (σ := ((yref E q.2.2).1, Ls, (yref E q.2.2).2 :: Ss, H, z)) h hc ho (hB.trans hp) ⟨p1, svs_mono hp hS.2.1, ⟨p2, svs_mono hp g4⟩, ovl_mono hp hS.2.2.2⟩ hM
          rcases r with cc | w
          · cases hi : ieq ix.2.1 0 with
            | false => simp only [hi] at h; exact any h
            | true =>
              simp only [hi] at h
              have ek : kc = cc := g3.2
              subst ek
              rcases yev_some j4 with ⟨k1, k2⟩ | ⟨k1, _⟩
              · rw [← k2] at h
                rw [Int.toNat_natCast] at h
                exact ks_use hK (σ := (E, Ls, sR (.inl (rt kc j)) :: Ss, H, z)) h hc ho hB ⟨hS.1, hS.2.1, ⟨⟨_, rfl, e3, rfl⟩, g4⟩, hS.2.2.2⟩ hM
              · exact absurd (ieq_iff.mp hi) k1
          · exact any h
        · unfold x_aald at h; simp only [hs] at h; cases h
    all_goals cases h
  all_goals cases h
noncomputable def x_lald (kd : Nat → Nat) (sh : Nat → Sh) : (SS → SR) → SS → SR := fun k σ => match σ.2.2.1 with
  | .inl ix :: S => (match S with
    | .inr (.inr (.inl r)) :: S => (match sh (kdR kd r) with
      | .inr (.inr (.inr N)) => gdS (Nat.ble N 100000) (gdS (yin (yrg σ.1 ix) (0, (N : Int) - 1)) (match yfd r ix σ.2.2.2.1 with
        | some v => k (σ.1, σ.2.1, sJ v :: S, σ.2.2.2.1, σ.2.2.2.2)
        | none => k (σ.1, σ.2.1, sT 3 :: S, σ.2.2.2.1, σ.2.2.2.2)))
      | _ => none)
    | _ => none)
  | _ => none
theorem op_lald_n {E : Env9} {n z a j : Nat} {L S xs : List AV} {M : Mem} (h : tget 9 M a = cL xs) (hj : j < xs.length) : op_lald call K E n z L (vI j :: vR a :: S) M = K E n z L (nth xs j :: S) M := by
  show (match tget 9 M a with | .inr (.inr (.inr q)) => gd (Nat.ble (j + 1) q.length) (K E n z L (nth q j :: S) M) | _ => none : OR) = _
  rw [h]
  show gd (Nat.ble (j + 1) xs.length) (K E n z L (nth xs j :: S) M) = _
  rw [Nat.ble_eq_true_of_le (show j + 1 ≤ xs.length from hj)]
  rfl
theorem s_lald (hK : KS kd sh rt bd Wp Inv M0 Ev Zo B c P K k) : KS kd sh rt bd Wp Inv M0 Ev Zo B c P (op_lald call K) (x_lald kd sh k) := by
  intro σ c' os h hc ho G L S M hB hS hM
  obtain ⟨E, Ls, Ss, H, z⟩ := σ
  rcases Ss with _ | ⟨a, Ss⟩
  · cases h
  rcases a with ix | q | q | q | q | q
  · rcases Ss with _ | ⟨b, Ss⟩
    · cases h
    rcases b with q | q | r | q | q | q
    · cases h
    · cases h
    · obtain ⟨v, S, rfl, g1, g2⟩ := svs_cons hS.2.2.1
      obtain ⟨u, S, rfl, g3, g4⟩ := svs_cons g2
      obtain ⟨kc, rfl, g3⟩ := g3
      obtain ⟨j, rfl, j1, j2⟩ := g1
      have hkd := rkc_kd g3
      show OKo (op_lald call K Ev 466 (Zo + z) L (vI j :: vR kc :: S) M) _
      cases hs : sh (kdR kd r) with
      | inl q => unfold x_lald at h; simp only [hs] at h; cases h
      | inr q =>
        rcases q with q | q | N
        · unfold x_lald at h; simp only [hs] at h; cases h
        · unfold x_lald at h; simp only [hs] at h; cases h
        · unfold x_lald at h
          simp only [hs] at h
          obtain ⟨h0, h⟩ := gdS_some h
          obtain ⟨h1, h⟩ := gdS_some h
          obtain ⟨xs, f1, f2, f3⟩ := co_lng hM.1 g3.1 (by rw [hkd]; exact hs)
          obtain ⟨j3, j4⟩ := ix_nat hS.1 j1 j2 (Nat.le_of_ble_eq_true h0) h1
          rw [op_lald_n f1 (by rw [f2]; exact j3)]
          obtain ⟨x, e1⟩ := f3 j j3
          rw [e1]
          cases hf : yfd r ix H with
          | none =>
            rw [hf] at h
            exact ks_use hK (σ := (E, Ls, sT 3 :: Ss, H, z)) h hc ho hB ⟨hS.1, hS.2.1, ⟨⟨x, rfl⟩, g4⟩, hS.2.2.2⟩ hM
          | some v9 =>
            rw [hf] at h
            obtain ⟨k', i', q1, q2, q3⟩ := hS.2.2.2 _ (yfd_mem hf)
            have e2 := rkc_fun q1 g3
            subst e2
            have e3 : i' = j := by
              have q2 : yev G ix = some (i' : Int) := q2
              rw [j4] at q2
              have := Option.some.inj q2
              omega
            subst e3
            have er : rdI M k' i' = lsg x := by unfold rdI; rw [f1]; show avJ (nth xs i') = _; rw [e1]; rfl
            exact ks_use hK (σ := (E, Ls, sJ v9 :: Ss, H, z)) h hc ho hB ⟨hS.1, hS.2.1, ⟨⟨x, rfl, by rw [← er]; exact q3⟩, g4⟩, hS.2.2.2⟩ hM
    all_goals cases h
  all_goals cases h
noncomputable def x_last (kd : Nat → Nat) (sh : Nat → Sh) (Wp PR : Nat → Int → Bool) : (SS → SR) → SS → SR := fun k σ => match σ.2.2.1 with
  | a :: S => (match S with
    | .inl ix :: S => (match S with
      | .inr (.inr (.inl r)) :: S => (match sh (kdR kd r) with
        | .inr (.inr (.inr N)) => gdS (Nat.ble N 100000) (gdS (yin (yrg σ.1 ix) (0, (N : Int) - 1)) (gdS (sP σ.1 1 a) (gdS (yix σ.1 ix (ywp Wp PR (kdR kd r))) (match a with
          | .inr (.inl v) => k (σ.1, σ.2.1, S, ((r, ix), v) :: ydrop kd σ.1 r ix σ.2.2.2.1, σ.2.2.2.2)
          | _ => k (σ.1, σ.2.1, S, ydrop kd σ.1 r ix σ.2.2.2.1, σ.2.2.2.2)))))
        | _ => none)
      | _ => none)
    | _ => none)
  | _ => none
theorem op_last_n {E : Env9} {n z a j x : Nat} {L S xs : List AV} {M : Mem} (h : tget 9 M a = cL xs) (hj : j < xs.length) : op_last call K E n z L (vJ x :: vI j :: vR a :: S) M = K E n z L S (tset 9 M a (cL (nst xs j (vJ x)))) := by
  show (match tget 9 M a with | .inr (.inr (.inr q)) => gd (Nat.ble (j + 1) q.length) (K E n z L S (tset 9 M a (.inr (.inr (.inr (nst q j (vJ x))))))) | _ => none : OR) = _
  rw [h]
  show gd (Nat.ble (j + 1) xs.length) _ = _
  rw [Nat.ble_eq_true_of_le (show j + 1 ≤ xs.length from hj)]
  rfl
theorem s_last (hI : Hang kd PR Inv) (hK : KS kd sh rt bd Wp Inv M0 Ev Zo B c P K k) : KS kd sh rt bd Wp Inv M0 Ev Zo B c P (op_last call K) (x_last kd sh Wp PR k) := by
  intro σ c' os h hc ho G L S M hB hS hM
  obtain ⟨E, Ls, Ss, H, z⟩ := σ
  rcases Ss with _ | ⟨a, Ss⟩
  · cases h
  rcases Ss with _ | ⟨a2, Ss⟩
  · cases h
  rcases a2 with ix | q | q | q | q | q
  · rcases Ss with _ | ⟨a3, Ss⟩
    · cases h
    rcases a3 with q | q | r | q | q | q
    · cases h
    · cases h
    · obtain ⟨v, S, rfl, g1, g2⟩ := svs_cons hS.2.2.1
      obtain ⟨u, S, rfl, g3, g4⟩ := svs_cons g2
      obtain ⟨w, S, rfl, g5, g6⟩ := svs_cons g4
      obtain ⟨kc, rfl, g5⟩ := g5
      obtain ⟨j, rfl, j1, j2⟩ := g3
      have hkd := rkc_kd g5
      show OKo (op_last call K Ev 466 (Zo + z) L (v :: vI j :: vR kc :: S) M) _
      cases hs : sh (kdR kd r) with
      | inl q => unfold x_last at h; simp only [hs] at h; cases h
      | inr q =>
        rcases q with q | q | N
        · unfold x_last at h; simp only [hs] at h; cases h
        · unfold x_last at h; simp only [hs] at h; cases h
        · unfold x_last at h
          simp only [hs] at h
          obtain ⟨h0, h⟩ := gdS_some h
          obtain ⟨h1, h⟩ := gdS_some h
          obtain ⟨h2, h⟩ := gdS_some h
          obtain ⟨h3, h⟩ := gdS_some h
          obtain ⟨xs, f1, f2, f3⟩ := co_lng hM.1 g5.1 (by rw [hkd]; exact hs)
          obtain ⟨j3, j4⟩ := ix_nat hS.1 j1 j2 (Nat.le_of_ble_eq_true h0) h1
          obtain ⟨w1, w2⟩ := ywp_ok (yix_ok hS.1 h3 j4)
          have hT : ∀ x, TI kd sh rt bd (tset 9 M kc (cL (nst xs j (vJ x)))) := by
            intro x
            refine ti_set hM.1 g5.1 ?_
            unfold cOK
            rw [hkd, hs]
            refine ⟨_, rfl, by rw [nst_len]; exact f2, fun j' hj' => ?_⟩
            rw [nth_nst]
            by_cases e : j' = j ∧ j < xs.length
            · rw [if_pos e]; exact ⟨x, rfl⟩
            · rw [if_neg e]; exact f3 j' hj'
          have drop : ∀ x, v = vJ x → k (E, Ls, Ss, ydrop kd E r ix H, z) = some (c', os) → OKo (op_last call K Ev 466 (Zo + z) L (v :: vI j :: vR kc :: S) M) P := by
            intro x hv h
            subst hv
            rw [op_last_n f1 (by rw [f2]; exact j3)]
            have hw := wrt_l (x := x) g5.1 f1 (show j < xs.length by rw [f2]; exact j3)
            exact ks_use hK (σ := (E, Ls, Ss, ydrop kd E r ix H, z)) h hc ho hB ⟨hS.1, hS.2.1, g6, ovl_d hS.1 hw g5 j4 hS.2.2.2⟩ (gm_w hI hw (hT x) (by rw [hkd]; exact w2) (by rw [hkd]; exact w1) hM)
          rcases a with q | v9 | q | q | q | t
          · cases h2
          · obtain ⟨x, rfl, x2⟩ := g1
            rw [op_last_n f1 (by rw [f2]; exact j3)]
            have hw := wrt_l (x := x) g5.1 f1 (show j < xs.length by rw [f2]; exact j3)
            exact ks_use hK (σ := (E, Ls, Ss, ((r, ix), v9) :: ydrop kd E r ix H, z)) h hc ho hB ⟨hS.1, hS.2.1, g6, ovl_w hS.1 hw g5 j4 x2 hS.2.2.2⟩ (gm_w hI hw (hT x) (by rw [hkd]; exact w2) (by rw [hkd]; exact w1) hM)
          · cases h2
          · cases h2
          · cases h2
          · have ht : t = 3 := Nat.eq_of_beq_eq_true h2
            subst ht
            obtain ⟨x, hx⟩ := g1
            exact drop x hx h
    all_goals cases h
  all_goals cases h
noncomputable def x_alen (kd : Nat → Nat) (sh : Nat → Sh) : (SS → SR) → SS → SR := fun k σ => match σ.2.2.1 with
  | .inr (.inr (.inl r)) :: S => (match sh (kdR kd r) with
    | .inr (.inl q) => gdS (Nat.ble q.2 100000) (k (σ.1, σ.2.1, sI (0, 0, (q.2 : Int)) :: S, σ.2.2.2.1, σ.2.2.2.2))
    | _ => none)
  | _ => none
theorem s_alen (hK : KS kd sh rt bd Wp Inv M0 Ev Zo B c P K k) : KS kd sh rt bd Wp Inv M0 Ev Zo B c P (op_alen call K) (x_alen kd sh k) := by
  intro σ c' os h hc ho G L S M hB hS hM
  obtain ⟨E, Ls, Ss, H, z⟩ := σ
  rcases Ss with _ | ⟨a, Ss⟩
  · cases h
  rcases a with q | q | r | q | q | q
  · cases h
  · cases h
  · obtain ⟨v, S, rfl, g1, g2⟩ := svs_cons hS.2.2.1
    obtain ⟨kc, rfl, g3⟩ := g1
    have hkd := rkc_kd g3
    show OKo (op_alen call K Ev 466 (Zo + z) L (vR kc :: S) M) _
    cases hs : sh (kdR kd r) with
    | inl q => unfold x_alen at h; simp only [hs] at h; cases h
    | inr q =>
      rcases q with q | q
      · unfold x_alen at h
        simp only [hs] at h
        obtain ⟨h0, h⟩ := gdS_some h
        have h0 := Nat.le_of_ble_eq_true h0
        obtain ⟨p, f1, f2, f3⟩ := co_arr hM.1 g3.1 (by rw [hkd]; exact hs)
        have e : op_alen call K Ev 466 (Zo + z) L (vR kc :: S) M = K Ev 466 (Zo + z) L (vI q.2 :: S) M := by
          show (match tget 9 M kc with | .inr (.inl q) => K Ev 466 (Zo + z) L (vI q.2.1 :: S) M | _ => none : OR) = _
          rw [f1]
        rw [e]
        exact ks_use hK (σ := (E, Ls, sI (0, 0, (q.2 : Int)) :: Ss, H, z)) h hc ho hB ⟨hS.1, hS.2.1, ⟨⟨_, rfl, by omega, by rw [yev_c, sg_eq (by omega)]⟩, g2⟩, hS.2.2.2⟩ hM
      · unfold x_alen at h
        simp only [hs] at h
        cases h
  all_goals cases h
end OPS3
