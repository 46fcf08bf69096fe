/-! fields and places -/
section OPS2
variable {kd : Nat → Nat} {sh : Nat → Sh} {rt : Nat → Nat → Nat} {bd : Nat → Int → Int × Int} {Wp PR : Nat → Int → Bool} {Inv : Mem → Prop} {M0 : Mem} {Ev : Env9} {Zo : Nat} {B : List Int} {c : Nat} {P : Res → Prop} {K : KK} {k : SS → SR} {call : Call}
theorem co_obj {M : Mem} {k : Nat} {q : Nat × List Nat} (hT : TI kd sh rt bd M) (hk : k < 466) (h : sh (kd k) = .inl q) : ∃ fs, tget 9 M k = cO q.1 fs ∧ fs.length = q.2.length ∧ ∀ i ft, q.2[i]? = some ft → fOK kd rt bd k i ft (nth fs i) := by
  have h1 := hT k hk
  unfold cOK at h1
  rw [h] at h1
  exact h1
theorem co_arr {M : Mem} {k : Nat} {q : Nat × Nat} (hT : TI kd sh rt bd M) (hk : k < 466) (h : sh (kd k) = .inr (.inl q)) : ∃ p, tget 9 M k = cI q.1 q.2 p [] ∧ q.2 ≤ 100000 ∧ ∀ j : Nat, j < q.2 → (bd (kd k) j).1 ≤ sg (pget p j) ∧ sg (pget p j) ≤ (bd (kd k) j).2 := by
  have h1 := hT k hk
  unfold cOK at h1
  rw [h] at h1
  exact h1
theorem co_ref {M : Mem} {k : Nat} {q : Nat × Nat × Nat} (hT : TI kd sh rt bd M) (hk : k < 466) (h : sh (kd k) = .inr (.inr (.inl q))) : ∃ xs, tget 9 M k = cQ q.1 xs ∧ xs.length = q.2.1 ∧ ∀ j : Nat, j < q.2.1 → nth xs j = vR (rt k j) ∧ kd (rt k j) = q.2.2 ∧ rt k j < 466 := by
  have h1 := hT k hk
  unfold cOK at h1
  rw [h] at h1
  exact h1
theorem co_lng {M : Mem} {k : Nat} {N : Nat} (hT : TI kd sh rt bd M) (hk : k < 466) (h : sh (kd k) = .inr (.inr (.inr N))) : ∃ xs, tget 9 M k = cL xs ∧ xs.length = N ∧ ∀ j : Nat, j < N → ∃ x, nth xs j = vJ x := by
  have h1 := hT k hk
  unfold cOK at h1
  rw [h] at h1
  exact h1
/-- a reference to some cell of a kind -/
noncomputable def yref (E : YE) (f : Nat) : YE × SV := (E ++ [(0, 465, 0, 0, 0, 0)], sR (.inr (f, ylen E)))
theorem yref_ok {G : List Int} {E : YE} (hE : yenv G E) {f k : Nat} (h1 : kd k = f) (h2 : k < 466) : yenv (G ++ [(k : Int)]) (yref E f).1 ∧ sv kd (G ++ [(k : Int)]) (yref E f).2 (vR k) := by
  obtain ⟨p1, p2⟩ := yfresh_ok hE (lo := 0) (hi := 465) (x := (k : Int)) (by omega) (by omega)
  refine ⟨p1, k, rfl, h2, ?_, h1⟩
  show (G ++ [(k : Int)])[ylen E]? = some (k : Int)
  rw [ylen_eq, ← hE.1]
  simp
/-- a known fact, or any number within the bounds -/
noncomputable def yget (H : OV) (E : YE) (r : RK) (ix : Aff) (b : Int × Int) : YE × Aff × OV := match yfd r ix H with
  | some v => (E, v, H)
  | none => ((yfresh E b.1 b.2).1, (yfresh E b.1 b.2).2, ((r, ix), (yfresh E b.1 b.2).2) :: H)
theorem yget_ok {G : List Int} {E : YE} (hE : yenv G E) {H : OV} {M : Mem} (hH : ovl kd G H M) {r : RK} {ix : Aff} {b : Int × Int} {kc i : Nat} (h1 : rkc kd G r kc) (h2 : yev G ix = some (i : Int)) (h3 : b.1 ≤ rdI M kc i) (h4 : rdI M kc i ≤ b.2) : ∃ G', G <+: G' ∧ yenv G' (yget H E r ix b).1 ∧ yev G' (yget H E r ix b).2.1 = some (rdI M kc i) ∧ ovl kd G' (yget H E r ix b).2.2 M := by
  unfold yget
  cases hf : yfd r ix H with
  | some v =>
    obtain ⟨k', i', q1, q2, q3⟩ := hH _ (yfd_mem hf)
    have e1 := rkc_fun q1 h1
    subst e1
    have e2 : i' = i := by
      have q2 : yev G ix = some (i' : Int) := q2
      rw [h2] at q2
      have := Option.some.inj q2
      omega
    subst e2
    exact ⟨G, List.prefix_refl _, hE, q3, hH⟩
  | none =>
    obtain ⟨p1, p2⟩ := yfresh_ok hE (lo := b.1) (hi := b.2) h3 h4
    have hp : G <+: G ++ [rdI M kc i] := List.prefix_append _ _
    refine ⟨_, hp, p1, p2, fun h hm => ?_⟩
    rcases List.mem_cons.mp hm with e | e
    · subst e
      exact ⟨kc, i, rkc_mono hp h1, yev_mono hp h2, p2⟩
    · exact ovl_mono hp hH h e
noncomputable def x_getf (kd : Nat → Nat) (sh : Nat → Sh) (rt : Nat → Nat → Nat) (bd : Nat → Int → Int × Int) (ci i : Nat) : (SS → SR) → SS → SR := fun k σ => match σ.2.2.1 with
  | .inr (.inr (.inl r)) :: S => (match sh (kdR kd r) with
    | .inl q => gdS (Nat.beq q.1 ci) (match yat q.2 i with
      | some ft => (match ft with
        | 0 => k ((yget σ.2.2.2.1 σ.1 r (0, 0, (i : Int)) (bd (kdR kd r) i)).1, σ.2.1, sI (yget σ.2.2.2.1 σ.1 r (0, 0, (i : Int)) (bd (kdR kd r) i)).2.1 :: S, (yget σ.2.2.2.1 σ.1 r (0, 0, (i : Int)) (bd (kdR kd r) i)).2.2, σ.2.2.2.2)
        | 1 => k (σ.1, σ.2.1, sT 3 :: S, σ.2.2.2.1, σ.2.2.2.2)
        | f + 2 => (match r with
          | .inl cc => k (σ.1, σ.2.1, sR (.inl (rt cc i)) :: S, σ.2.2.2.1, σ.2.2.2.2)
          | .inr _ => k ((yref σ.1 f).1, σ.2.1, (yref σ.1 f).2 :: S, σ.2.2.2.1, σ.2.2.2.2)))
      | none => none)
    | _ => none)
  | _ => none
theorem op_getf_n {E : Env9} {n z ci i a : Nat} {L S fs : List AV} {M : Mem} (h : tget 9 M a = cO ci fs) (hi : i < fs.length) : op_getf ci i call K E n z L (vR a :: S) M = K E n z L (nth fs i :: S) M := by
  show (match tget 9 M a with | .inl q => gd (Nat.beq q.1 ci) (gd (Nat.ble (i + 1) q.2.length) (K E n z L (nth q.2 i :: S) M)) | _ => none : OR) = _
  rw [h]
  show gd (Nat.beq ci ci) (gd (Nat.ble (i + 1) fs.length) (K E n z L (nth fs i :: S) M)) = _
  rw [Nat.beq_refl, Nat.ble_eq_true_of_le (show i + 1 ≤ fs.length from hi)]
  rfl
theorem s_getf {ci i : Nat} (hK : KS kd sh rt bd Wp Inv M0 Ev Zo B c P K k) : KS kd sh rt bd Wp Inv M0 Ev Zo B c P (op_getf ci i call K) (x_getf kd sh rt bd ci i k) := by
  intro σ c' os h hc ho G L S M hB hS hM
  obtain ⟨E, Ls, Ss, H, z⟩ := σ
  rcases Ss with _ | ⟨a, Ss⟩
  · cases h
  rcases a with q | q | r | q | q | q
  · cases h
  · cases h
  · obtain ⟨v, S, rfl, g1, g2⟩ := svs_cons hS.2.2.1
    obtain ⟨kc, rfl, g3⟩ := g1
    have hkd := rkc_kd g3
    show OKo (op_getf ci i call K Ev 466 (Zo + z) L (vR kc :: S) M) _
    cases hs : sh (kdR kd r) with
    | inr _ => unfold x_getf at h; simp only [hs] at h; cases h
    | inl q =>
      unfold x_getf at h
      simp only [hs] at h
      obtain ⟨h1, h⟩ := gdS_some h
      rw [yat_eq] at h
      have h1 : q.1 = ci := Nat.eq_of_beq_eq_true h1
      obtain ⟨fs, f1, f2, f3⟩ := co_obj hM.1 g3.1 (by rw [hkd]; exact hs)
      rw [h1] at f1
      cases hq : q.2[i]? with
      | none => rw [hq] at h; cases h
      | some ft =>
        rw [hq] at h
        have hi : i < fs.length := by rw [f2]; exact (List.getElem?_eq_some_iff.mp hq).1
        rw [op_getf_n f1 hi]
        have f4 := f3 i ft hq
        match ft, h, f4 with
        | 0, h, f4 =>
          obtain ⟨x, e1, e2, e3, e4⟩ := f4
          have er : rdI M kc i = sg x := by unfold rdI; rw [f1]; show avI (nth fs i) = _; rw [e1]; rfl
          rw [hkd] at e3 e4
          obtain ⟨G', p1, p2, p3, p4⟩ := yget_ok hS.1 hS.2.2.2 (r := r) (ix := (0, 0, (i : Int))) (b := bd (kdR kd r) i) g3 yev_c (by rw [er]; exact e3) (by rw [er]; exact e4)
          rw [e1]
          exact ks_use hK (σ := ((yget H E r (0, 0, (i : Int)) (bd (kdR kd r) i)).1, Ls, sI (yget H E r (0, 0, (i : Int)) (bd (kdR kd r) i)).2.1 :: Ss, (yget H E r (0, 0, (i : Int)) (bd (kdR kd r) i)).2.2, z)) h hc ho (hB.trans p1) ⟨p2, svs_mono p1 hS.2.1, ⟨⟨x, rfl, e2, by rw [p3, er]⟩, svs_mono p1 g2⟩, p4⟩ hM
        | 1, h, f4 =>
          obtain ⟨x, e1⟩ := f4
          rw [e1]
          exact ks_use hK (σ := (E, Ls, sT 3 :: Ss, H, z)) h hc ho hB ⟨hS.1, hS.2.1, ⟨⟨x, rfl⟩, g2⟩, hS.2.2.2⟩ hM
        | f + 2, h, f4 =>
          obtain ⟨e1, e2, e3⟩ := f4
          rw [e1]
          rcases r with cc | w
          · have ek : kc = cc := g3.2
            subst ek
            exact ks_use hK (σ := (E, Ls, sR (.inl (rt kc i)) :: Ss, H, z)) h hc ho hB ⟨hS.1, hS.2.1, ⟨⟨_, rfl, e3, rfl⟩, g2⟩, hS.2.2.2⟩ hM
          · obtain ⟨p1, p2⟩ := yref_ok hS.1 e2 e3
            have hp : G <+: G ++ [(rt kc i : Int)] := List.prefix_append _ _
            exact ks_use hK (σ := ((yref E f).1, Ls, (yref E f).2 :: Ss, H, z)) h hc ho (hB.trans hp) ⟨p1, svs_mono hp hS.2.1, ⟨p2, svs_mono hp g2⟩, ovl_mono hp hS.2.2.2⟩ hM
  all_goals cases h
noncomputable def yin (r : Option (Int × Int)) (b : Int × Int) : Bool := match r with | some r => Bool.rec false (ile r.2 b.2) (ile b.1 r.1) | none => false
theorem yin_ok {G : List Int} {E : YE} (hE : yenv G E) {q : Aff} {v : Int} {b : Int × Int} (hv : yev G q = some v) (h : yin (yrg E q) b = true) : b.1 ≤ v ∧ v ≤ b.2 := by
  unfold yin at h
  cases hr : yrg E q with
  | none => rw [hr] at h; cases h
  | some r =>
    rw [hr] at h
    obtain ⟨k1, k2⟩ := band h
    have k1 := ile_iff.mp k1
    have k2 := ile_iff.mp k2
    have q1 := yrg_ok hE hv hr
    omega
/-- it may be written -/
noncomputable def ywp (Wp PR : Nat → Int → Bool) (κ : Nat) (v : Int) : Bool := Bool.rec false (Bool.rec true false (PR κ v)) (Wp κ v)
theorem ywp_ok {κ : Nat} {v : Int} (h : ywp Wp PR κ v = true) : Wp κ v = true ∧ PR κ v = false := by
  obtain ⟨h1, h2⟩ := band h
  refine ⟨h1, ?_⟩
  cases hp : PR κ v with
  | false => rfl
  | true => rw [hp] at h2; cases h2
noncomputable def x_putf (kd : Nat → Nat) (sh : Nat → Sh) (bd : Nat → Int → Int × Int) (Wp PR : Nat → Int → Bool) (f ci i : Nat) : (SS → SR) → SS → SR := fun k σ => match σ.2.2.1 with
  | a :: S => (match S with
    | .inr (.inr (.inl r)) :: S => gdS (sP σ.1 f a) (match sh (kdR kd r) with
      | .inl q => gdS (Nat.beq q.1 ci) (match yat q.2 i with
        | some ft => (match ft with
          | 0 => (match a with
            | .inl x => gdS (yin (yrg σ.1 x) (bd (kdR kd r) i)) (gdS (ywp Wp PR (kdR kd r) i) (k (σ.1, σ.2.1, S, ((r, (0, 0, (i : Int))), x) :: ydrop kd σ.1 r (0, 0, (i : Int)) σ.2.2.2.1, σ.2.2.2.2)))
            | _ => none)
          | 1 => gdS (Nat.beq f 1) (gdS (ywp Wp PR (kdR kd r) i) (k (σ.1, σ.2.1, S, ydrop kd σ.1 r (0, 0, (i : Int)) σ.2.2.2.1, σ.2.2.2.2)))
          | _ => none)
        | none => none)
      | _ => none)
    | _ => none)
  | _ => none
theorem op_putf_n {E : Env9} {n z ci i a : Nat} {f : AV → Bool} {L S fs : List AV} {M : Mem} {v : AV} (hf : f v = true) (h : tget 9 M a = cO ci fs) (hi : i < fs.length) : op_putf f ci i call K E n z L (v :: vR a :: S) M = K E n z L S (tset 9 M a (cO ci (nst fs i v))) := by
  show gd (f v) (match tget 9 M a with | .inl q => gd (Nat.beq q.1 ci) (gd (Nat.ble (i + 1) q.2.length) (K E n z L S (tset 9 M a (.inl (q.1, nst q.2 i v))))) | _ => none : OR) = _
  rw [h, hf]
  show gd (Nat.beq ci ci) (gd (Nat.ble (i + 1) fs.length) (K E n z L S (tset 9 M a (.inl (ci, nst fs i v))))) = _
  rw [Nat.beq_refl, Nat.ble_eq_true_of_le (show i + 1 ≤ fs.length from hi)]
  rfl
theorem fOK_nst {kc : Nat} {fs : List AV} {fts : List Nat} {i : Nat} {v : AV} (h : ∀ j ft, fts[j]? = some ft → fOK kd rt bd kc j ft (nth fs j)) (hv : ∀ ft, fts[i]? = some ft → fOK kd rt bd kc i ft v) : ∀ j ft, fts[j]? = some ft → fOK kd rt bd kc j ft (nth (nst fs i v) j) := by
  intro j ft hj
  rw [nth_nst]
  by_cases e : j = i ∧ i < fs.length
  · rw [if_pos e, e.1]; rw [e.1] at hj; exact hv ft hj
  · rw [if_neg e]; exact h j ft hj
theorem s_putf {f ci i : Nat} (hI : Hang kd PR Inv) (hK : KS kd sh rt bd Wp Inv M0 Ev Zo B c P K k) : KS kd sh rt bd Wp Inv M0 Ev Zo B c P (op_putf (fP f) ci i call K) (x_putf kd sh bd Wp PR f ci i k) := by
  intro σ c' os h hc ho G L S M hB hS hM
  obtain ⟨E, Ls, Ss, H, z⟩ := σ
  rcases Ss with _ | ⟨a, Ss⟩
  · cases h
  rcases Ss with _ | ⟨b, Ss⟩
  · cases h
  rcases b with q | q | r | q | q | q
  · cases h
  · cases h
  · obtain ⟨v, S, rfl, g1, g2⟩ := svs_cons hS.2.2.1
    obtain ⟨u, S, rfl, g3, g4⟩ := svs_cons g2
    obtain ⟨kc, rfl, g3⟩ := g3
    have hkd := rkc_kd g3
    show OKo (op_putf (fP f) ci i call K Ev 466 (Zo + z) L (v :: vR kc :: S) M) _
    cases hs : sh (kdR kd r) with
    | inr _ =>
      unfold x_putf at h
      simp only [hs] at h
      obtain ⟨h0, h⟩ := gdS_some h
      cases h
    | inl q =>
      unfold x_putf at h
      simp only [hs] at h
      obtain ⟨h0, h⟩ := gdS_some h
      obtain ⟨h1, h⟩ := gdS_some h
      rw [yat_eq] at h
      have h1 : q.1 = ci := Nat.eq_of_beq_eq_true h1
      obtain ⟨fs, f1, f2, f3⟩ := co_obj hM.1 g3.1 (by rw [hkd]; exact hs)
      rw [h1] at f1
      cases hq : q.2[i]? with
      | none => rw [hq] at h; cases h
      | some ft =>
        rw [hq] at h
        have hi : i < fs.length := by rw [f2]; exact (List.getElem?_eq_some_iff.mp hq).1
        rw [op_putf_n (sP_ok hS.1 h0 g1) f1 hi]
        have f4 := f3 i ft hq
        match ft, h, f4, hq with
        | 0, h, f4, hq =>
          rcases a with x | q9 | q9 | q9 | q9 | q9
          · obtain ⟨h2, h⟩ := gdS_some h
            obtain ⟨h3, h⟩ := gdS_some h
            obtain ⟨n, rfl, e2, e3⟩ := g1
            obtain ⟨b1, b2⟩ := yin_ok hS.1 e3 h2
            obtain ⟨w1, w2⟩ := ywp_ok h3
            have hw := wrt_o (x := n) g3.1 f1 hi
            have hT : TI kd sh rt bd (tset 9 M kc (cO ci (nst fs i (vI n)))) := by
              refine ti_set hM.1 g3.1 ?_
              unfold cOK
              rw [hkd, hs]
              refine ⟨_, by rw [h1], by rw [nst_len]; exact f2, fOK_nst f3 (fun ft' hf' => ?_)⟩
              rw [hq] at hf'
              cases hf'
              exact ⟨n, rfl, e2, by rw [hkd]; exact b1, by rw [hkd]; exact b2⟩
            exact ks_use hK (σ := (E, Ls, Ss, ((r, (0, 0, (i : Int))), x) :: ydrop kd E r (0, 0, (i : Int)) H, z)) h hc ho hB ⟨hS.1, hS.2.1, g4, ovl_w hS.1 hw g3 yev_c e3 hS.2.2.2⟩ (gm_w hI hw hT (by rw [hkd]; exact w2) (by rw [hkd]; exact w1) hM)
          all_goals cases h
        | 1, h, f4, hq =>
          obtain ⟨h2, h8⟩ := gdS_some h
          obtain ⟨h3, h9⟩ := gdS_some h8
          obtain ⟨w1, w2⟩ := ywp_ok h3
          have h2 : f = 1 := Nat.eq_of_beq_eq_true h2
          subst h2
          obtain ⟨n, rfl⟩ : ∃ n, v = vJ n := by
            rcases a with x | x | x | x | x | t
            · cases h0
            · obtain ⟨n, e, _⟩ := g1; exact ⟨n, e⟩
            · cases h0
            · cases h0
            · cases h0
            · have ht : t = 3 := Nat.eq_of_beq_eq_true h0
              subst ht
              exact g1
          have hw := wrt_j (x := n) g3.1 f1 hi
          have hT : TI kd sh rt bd (tset 9 M kc (cO ci (nst fs i (vJ n)))) := by
            refine ti_set hM.1 g3.1 ?_
            unfold cOK
            rw [hkd, hs]
            refine ⟨_, by rw [h1], by rw [nst_len]; exact f2, fOK_nst f3 (fun ft' hf' => ?_)⟩
            rw [hq] at hf'
            cases hf'
            exact ⟨n, rfl⟩
          exact ks_use hK (σ := (E, Ls, Ss, ydrop kd E r (0, 0, (i : Int)) H, z)) h9 hc ho hB ⟨hS.1, hS.2.1, g4, ovl_d hS.1 hw g3 yev_c hS.2.2.2⟩ (gm_w hI hw hT (by rw [hkd]; exact w2) (by rw [hkd]; exact w1) hM)
        | ft + 2, h, f4, hq => cases h
  all_goals cases h
/-- an index within a row -/
theorem ix_nat {G : List Int} {E : YE} (hE : yenv G E) {ix : Aff} {j N : Nat} (hj : j < 4294967296) (hv : yev G ix = some (sg j)) (hN : N ≤ 100000) (h : yin (yrg E ix) (0, (N : Int) - 1) = true) : j < N ∧ yev G ix = some (j : Int) := by
  obtain ⟨h1, h2⟩ := yin_ok hE hv h
  have h3 : j ≤ 2147483647 := by unfold sg bi at h1; omega
  have h4 := sg_eq h3
  exact ⟨by have h2 : sg j ≤ (N : Int) - 1 := h2; omega, by rw [hv, h4]⟩
/-- least and greatest over all places -/
noncomputable def yhl (n : Nat) (lo : Int) (f : Int → Int × Int) : Int × Int := Nat.rec (f lo) (fun j ih => (imin ih.1 (f (lo + ((j : Int) + 1))).1, imax ih.2 (f (lo + ((j : Int) + 1))).2)) n
noncomputable def yhix (E : YE) (q : Aff) (f : Int → Int × Int) : Int × Int := Bool.rec (match yat E q.1 with
  | some e => Bool.rec (yhl (e.2.1 - e.1).toNat e.1 fun x => f (q.2.1 * x + q.2.2)) (match yat E e.2.2.2.1 with
    | some a => (match yat E e.2.2.2.2.2 with
      | some b => yhl (a.2.1 - a.1).toNat a.1 fun x => yhl (b.2.1 - b.1).toNat b.1 fun y => f (q.2.1 * (e.2.2.1 * x + e.2.2.2.2.1 * y) + q.2.2)
      | none => (0, 0))
    | none => (0, 0)) (ydf e)
  | none => (0, 0)) (f q.2.2) (ieq q.2.1 0)
noncomputable def x_iald (kd : Nat → Nat) (sh : Nat → Sh) (bd : Nat → Int → Int × Int) (un : Nat → Bool) (t : Nat) : (SS → SR) → SS → SR := fun k σ => match σ.2.2.1 with
  | .inl ix :: S => (match S with
    | .inr (.inr (.inl r)) :: S => (match sh (kdR kd r) with
      | .inr (.inl q) => gdS (Nat.beq q.1 t) (gdS (yin (yrg σ.1 ix) (0, (q.2 : Int) - 1))
        (let b := Bool.rec (yhix σ.1 ix (bd (kdR kd r))) (bd (kdR kd r) 0) (un (kdR kd r))
        gdS (Bool.rec (yix σ.1 ix fun v => Bool.rec false (ile (bd (kdR kd r) v).2 b.2) (ile b.1 (bd (kdR kd r) v).1)) true (un (kdR kd r)))
          (let w := yget σ.2.2.2.1 σ.1 r ix b
          k (w.1, σ.2.1, sI w.2.1 :: S, w.2.2, σ.2.2.2.2))))
      | _ => none)
    | _ => none)
  | _ => none
theorem op_iald_n {E : Env9} {n z a j t N p : Nat} {L S : List AV} {M : Mem} (h : tget 9 M a = cI t N p []) (hj : j < N) : op_iald t call K E n z L (vI j :: vR a :: S) M = K E n z L (vI (pget p j) :: S) M := by
  show (match tget 9 M a with | .inr (.inl q) => gd (Nat.beq q.1 t) (gd (Nat.ble (j + 1) q.2.1) (K E n z L (aget q.2.2.1 q.2.2.2 j :: S) M)) | _ => none : OR) = _
  rw [h]
  show gd (Nat.beq t t) (gd (Nat.ble (j + 1) N) (K E n z L (vI (pget p j) :: S) M)) = _
  rw [Nat.beq_refl, Nat.ble_eq_true_of_le (show j + 1 ≤ N from hj)]
  rfl
theorem pget_lt (p j : Nat) : pget p j < 4294967296 := Nat.mod_lt _ (by omega)
theorem s_iald {un : Nat → Bool} (hu : ∀ κ v, un κ = true → bd κ v = bd κ 0) {t : Nat} (hK : KS kd sh rt bd Wp Inv M0 Ev Zo B c P K k) : KS kd sh rt bd Wp Inv M0 Ev Zo B c P (op_iald t call K) (x_iald kd sh bd un t k) := by
  intro σ c' os h hc ho G L S M hB hS hM
  obtain ⟨E, Ls, Ss, H, z⟩ := σ
  rcases Ss with _ | ⟨a, Ss⟩
  · cases h
  rcases a with ix | q | q | q | q | q
  · rcases Ss with _ | ⟨b, Ss⟩
    · cases h
    rcases b with q | q | r | q | q | q
    · cases h
    · cases h
    · obtain ⟨v, S, rfl, g1, g2⟩ := svs_cons hS.2.2.1
      obtain ⟨u, S, rfl, g3, g4⟩ := svs_cons g2
      obtain ⟨kc, rfl, g3⟩ := g3
      obtain ⟨j, rfl, j1, j2⟩ := g1
      have hkd := rkc_kd g3
      show OKo (op_iald t call K Ev 466 (Zo + z) L (vI j :: vR kc :: S) M) _
      cases hs : sh (kdR kd r) with
      | inl q => unfold x_iald at h; simp only [hs] at h; cases h
      | inr q =>
        rcases q with q | q
        · unfold x_iald at h
          simp only [hs] at h
          obtain ⟨h1, h⟩ := gdS_some h
          obtain ⟨h2, h⟩ := gdS_some h
          obtain ⟨h3, h⟩ := gdS_some h
          have h1 : q.1 = t := Nat.eq_of_beq_eq_true h1
          obtain ⟨p, f1, f2, f3⟩ := co_arr hM.1 g3.1 (by rw [hkd]; exact hs)
          obtain ⟨j3, j4⟩ := ix_nat hS.1 j1 j2 f2 h2
          rw [h1] at f1
          rw [op_iald_n f1 j3]
          have er : rdI M kc j = sg (pget p j) := by unfold rdI; rw [f1]; rfl
          obtain ⟨f4, f5⟩ := f3 j j3
          rw [hkd] at f4 f5
          obtain ⟨G', p1, p2, p3, p4⟩ := yget_ok hS.1 hS.2.2.2 (r := r) (ix := ix) (b := Bool.rec (yhix E ix (bd (kdR kd r))) (bd (kdR kd r) 0) (un (kdR kd r))) g3 j4 (by
            rw [er]
            cases hun : un (kdR kd r) with
            | true => show (bd (kdR kd r) 0).1 ≤ _; rw [← hu _ (j : Int) hun]; exact f4
            | false =>
              rw [hun] at h3
              have := (band (yix_ok hS.1 h3 j4)).1
              have := ile_iff.mp this
              show (yhix E ix (bd (kdR kd r))).1 ≤ _
              exact Int.le_trans this f4) (by
            rw [er]
            cases hun : un (kdR kd r) with
            | true => show _ ≤ (bd (kdR kd r) 0).2; rw [← hu _ (j : Int) hun]; exact f5
            | false =>
              rw [hun] at h3
              have := (band (yix_ok hS.1 h3 j4)).2
              have := ile_iff.mp this
              show _ ≤ (yhix E ix (bd (kdR kd r))).2
              exact Int.le_trans f5 this)
          exact ks_use hK (L := L) (S := vI (pget p j) :: S) h hc ho (hB.trans p1) ⟨p2, svs_mono p1 hS.2.1, ⟨⟨_, rfl, pget_lt _ _, by rw [p3, er]⟩, svs_mono p1 g4⟩, p4⟩ hM
        · unfold x_iald at h
          simp only [hs] at h
          cases h
    all_goals cases h
  all_goals cases h
end OPS2
