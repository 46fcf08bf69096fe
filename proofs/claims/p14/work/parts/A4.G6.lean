/-! both find the same -/
theorem is_nm : allN 8 (fun j => allN 7 (fun i => isSt (203 + 17 * j + i))) = true := by decide +kernel
theorem nm_raw {M : Mem} (hT : TI kd0 sh0 rt0 bd0 M) (h : JX M) : ∃ E : Nat → Nat, ∀ j, j < rN M 7 3 → E j < 9223372036854775808 ∧ lsg (rN M (22 + 3 * j) 0) = lsg (E j) ∧ nmRow (rN M) (203 + 17 * j) (E j) := by
  obtain ⟨-, v, u, v', u', c, r, ⟨-, w, hw, hE, hV⟩, -⟩ := h
  obtain ⟨⟨n2, c2⟩, n3, c3⟩ := cnt9 hT (show 7 ∈ W9 by decide)
  obtain ⟨q, hq⟩ := sa_453
  have ew : ∀ i, i < 627 → isSt i = true → rN M 453 i = w i := fun i hi hs => by
    have b := rn_arr (k := 453) (i := i) hT (by decide) hq
    have s0 := r.1 i hi hs
    rw [Nat.zero_add] at s0
    exact sg_inj b.2 (hw i hi).2 (by rw [← b.1, s0]; exact (hw i hi).1)
  have ex : ∀ j, ∃ x, j < rN M 7 3 → x < 9223372036854775808 ∧ lsg (rN M (22 + 3 * j) 0) = lsg x ∧ nmRow (rN M) (203 + 17 * j) x := fun j => by
    by_cases hj : j < rN M 7 3
    · have k1 : j < 8 := by omega
      have k2 : (j : Int) < v 1 := by
        rw [← c.1.2.1, c3]
        omega
      obtain ⟨x, x1, x2, z, U, z1, z6, ez, ek, exx⟩ := hV j k1 k2
      refine ⟨x, fun _ => ⟨x1, ?_, z, U, z1, z6, ?_, fun k hk => ?_, exx⟩⟩
      · have a := rn6n hT (show 7 + 15 + 3 * j < 466 by omega) ((kW_ok (show 7 ∈ W9 by decide)).2.2 j k1)
        rw [show 22 + 3 * j = 7 + 15 + 3 * j by omega, ← a, (c.1.2.2.2 j k1 k2).2.2, x2]
      · exact (ew (203 + 17 * j) (by omega) (allN_ok (allN_ok is_nm j k1) 0 (by decide))).trans ez
      · have e := ew (203 + 17 * j + (1 + k)) (by omega) (allN_ok (allN_ok is_nm j k1) (1 + k) (by omega))
        rw [show 203 + 17 * j + (1 + k) = 203 + 17 * j + 1 + k by omega] at e
        rw [e]
        exact ek k hk
    · exact ⟨0, fun h => absurd h hj⟩
  exact ⟨fun j => Classical.choose (ex j), fun j hj => Classical.choose_spec (ex j) hj⟩
theorem fnd_q {E : Env9} {M M1 M2 : Mem} {x1 x2 : Nat} {S1 L1 S2 L2 : List AV} {z1 z2 : Nat} (hJ : JI M) (hR : RJ M) (J1 : JI M1) (e1 : runM 200 111 E 466 [vR 0] M = some [((0, 0), E, vI x1, S1, L1, M1, 466, z1)]) (e2 : runM 200 270 E 466 [vR 452] M1 = some [((0, 0), E, vI x2, S2, L2, M2, 466, z2)]) : x1 = x2 := by
  obtain ⟨N, hN⟩ := nm_raw hJ.1 hR.2
  obtain ⟨⟨n2, -⟩, n3, -⟩ := cnt9 hJ.1 (show 7 ∈ W9 by decide)
  have hc := (JX_cnt hJ.1 hR.2).2
  obtain ⟨w1, w2⟩ := v_findVC (D := 192) (E := N) (txC_M hJ.1) (c := rN M 7 3) rfl (by omega) (fun j hj => ⟨(hN j hj).1, (hN j hj).2.1⟩)
  have go : ∀ y, vM MT0 195 111 [vR 0] (rN M) = some ((0, 0), vI y, rN M) → x1 = y ∧ ∀ k, k < 466 → ∀ i, rN M1 k i = rN M k i := fun y hy => by
    obtain ⟨r1, r2⟩ := vcall (E := E) hJ.1 wl_1 hy e1
    have r1 : vI x1 = vI y := r1
    injection r1 with r1
    exact ⟨r1, r2⟩
  have ref : (∀ k, k < 466 → ∀ i, rN M1 k i = rN M k i) → (nmOK (bt (rN M)) (rN M 1 1) → x2 = fidx N (pkr (nmr (bt (rN M)) 0 (rN M 1 1))) (rN M 7 3) 0) ∧ (¬ nmOK (bt (rN M)) (rN M 1 1) → x2 = 4294967295) := fun r2 => by
    obtain ⟨b1, b2⟩ := v_findVR (D := 190) (E := N) (txR_M hJ.1 hR.1 (r2 452 (by decide) 16) (r2 462 (by decide))) (c := rN M 7 3) ((r2 453 (by decide) 1).trans hc.symm) (by omega) (fun j hj => by
      obtain ⟨z, U, a1, a2, a3, a4, a5⟩ := (hN j hj).2.2
      exact ⟨z, U, a1, a2, (r2 453 (by decide) _).trans a3, fun k hk => ⟨(r2 453 (by decide) _).trans (a4 k hk).1, (a4 k hk).2⟩, a5⟩)
    refine ⟨fun h => ?_, fun h => ?_⟩
    · obtain ⟨r3, -⟩ := vcall (E := E) J1.1 wl_1 (b1 h) e2
      have r3 : vI x2 = vI (fidx N (pkr (nmr (bt (rN M)) 0 (rN M 1 1))) (rN M 7 3) 0) := r3
      injection r3
    · obtain ⟨r3, -⟩ := vcall (E := E) J1.1 wl_1 (b2 h) e2
      have r3 : vI x2 = vI 4294967295 := r3
      injection r3
  by_cases h : nmOK (bt (rN M)) (rN M 1 1)
  · obtain ⟨r1, r2⟩ := go _ (w1 h)
    rw [r1, (ref r2).1 h]
  · obtain ⟨r1, r2⟩ := go _ (w2 h)
    rw [r1, (ref r2).2 h]
    exact fidx_no _ 0 (fun i _ hi => nm_0 (hN i (by omega)).2.2)
