/-! a contract ends: by hand -/
section CE9
variable {bo : Bo9} {R : Nat → Call} {Ev : Env9}
theorem ct_E (hR : ∀ k y E n as M, R (k + 1) y E n as M = bo y (R k) E n as M) (hMT : ∀ y md, MT0 y = some md → MDOK bo y md) (hmd : MDOK bo 200 mdE) {e : Nat} (he : e < 12) : ∀ k, 3 ≤ k → CtrOK kd0 sh0 rt0 bd0 Inv0 Ev (R k) 200 (ctE e) := by
  intro k hk vs M h1 h2 _ hT hInv
  obtain ⟨k', rfl⟩ : ∃ k', k = k' + 1 := ⟨k - 1, by omega⟩
  obtain ⟨d, c, e1, e2⟩ := hmd
  have hmC : MdC mdE d c := e1
  rw [hR, e2]
  have el : (flatL vs).length = 2 := by rw [← lOK_len (spF_ok h1)]; rfl
  rw [el]
  have f0 := fact_at h2 (c := 453) (i := 36 + 15 * e) (lo := 1) (hi := 8) (List.mem_singleton.mpr rfl)
  obtain ⟨v, hv, hve⟩ : ∃ v : Nat, v < 8 ∧ rdI M 453 (36 + 15 * e) = (v : Int) + 1 := ⟨(rdI M 453 (36 + 15 * e) - 1).toNat, by omega, by omega⟩
  have bs := bdIs_ok (allN_ok bdSt v hv) hT (by omega)
  obtain ⟨st, hst, hste⟩ : ∃ st : Nat, st < 4 ∧ rdI M 453 (216 + 17 * v) = (st : Int) := ⟨(rdI M 453 (216 + 17 * v)).toNat, by omega, by omega⟩
  have bm := fun p (hp : p < 3) => bdIs_ok (allN_ok (allN_ok bdMe v hv) p hp) hT (by omega)
  have hex : ∃ p, p < 3 ∧ p < st ∧ rdI M 453 (217 + 17 * v + p) = (e : Int) := by
    obtain ⟨p, p1, p2, p3⟩ := hInv.1 (453, 0) (by decide) e he v hv (by show rdI M 453 (0 + (36 + 15 * e)) = _; rw [show 0 + (36 + 15 * e) = 36 + 15 * e by omega]; exact hve)
    have p2 : (p : Int) < rdI M 453 (0 + (216 + 17 * v)) := p2
    have p3 : rdI M 453 (0 + (217 + 17 * v + p)) = (e : Int) := p3
    rw [show 0 + (216 + 17 * v) = 216 + 17 * v by omega] at p2
    rw [show 0 + (217 + 17 * v + p) = 217 + 17 * v + p by omega] at p3
    exact ⟨p, p1, by omega, p3⟩
  obtain ⟨p, hp3, hps, hpe, hmin⟩ : ∃ p, p < 3 ∧ p < st ∧ rdI M 453 (217 + 17 * v + p) = (e : Int) ∧ ∀ q, q < p → rdI M 453 (217 + 17 * v + q) ≠ (e : Int) := by
    obtain ⟨p, a1, a2, a3⟩ := hex
    by_cases q0 : rdI M 453 (217 + 17 * v + 0) = (e : Int)
    · exact ⟨0, by omega, by omega, q0, fun q hq => by omega⟩
    · by_cases q1 : rdI M 453 (217 + 17 * v + 1) = (e : Int)
      · have : p ≠ 0 := fun h9 => q0 (by rw [h9] at a3; exact a3)
        refine ⟨1, by omega, by omega, q1, fun q hq => ?_⟩
        have : q = 0 := by omega
        rw [this]; exact q0
      · have n0 : p ≠ 0 := fun h9 => q0 (by rw [h9] at a3; exact a3)
        have n1 : p ≠ 1 := fun h9 => q1 (by rw [h9] at a3; exact a3)
        have e3 : p = 2 := by omega
        rw [e3] at a2 a3
        refine ⟨2, by omega, a2, a3, fun q hq => ?_⟩
        have : q = 0 ∨ q = 1 := by omega
        rcases this with h9 | h9 <;> rw [h9]
        · exact q0
        · exact q1
  -- the sides of those before
  have bit : ∀ q, q < p → ∃ s : Bool, (s = true → (e : Int) + 1 ≤ rdI M 453 (217 + 17 * v + q)) ∧ (s = false → rdI M 453 (217 + 17 * v + q) ≤ (e : Int) - 1) := by
    intro q hq
    have := hmin q hq
    by_cases h9 : (e : Int) < rdI M 453 (217 + 17 * v + q)
    · exact ⟨true, fun _ => by omega, fun h => nomatch h⟩
    · exact ⟨false, fun h => (nomatch h), fun _ => by omega⟩
  obtain ⟨b, hb, hbt⟩ : ∃ b, b < 2 ^ p ∧ ∀ q, q < p → (Nat.testBit b q = true → (e : Int) + 1 ≤ rdI M 453 (217 + 17 * v + q)) ∧ (Nat.testBit b q = false → rdI M 453 (217 + 17 * v + q) ≤ (e : Int) - 1) := by
    have : p = 0 ∨ p = 1 ∨ p = 2 := by omega
    rcases this with h9 | h9 | h9
    · subst h9; exact ⟨0, by decide, fun q hq => by omega⟩
    · subst h9
      obtain ⟨s, s1, s2⟩ := bit 0 (by omega)
      cases s with
      | false => exact ⟨0, by decide, fun q hq => by obtain rfl : q = 0 := by omega
                                                     exact ⟨fun h => absurd h (by decide), fun _ => s2 rfl⟩⟩
      | true => exact ⟨1, by decide, fun q hq => by obtain rfl : q = 0 := by omega
                                                    exact ⟨fun _ => s1 rfl, fun h => absurd h (by decide)⟩⟩
    · subst h9
      obtain ⟨s, s1, s2⟩ := bit 0 (by omega)
      obtain ⟨t, t1, t2⟩ := bit 1 (by omega)
      have key : ∀ b, b < 4 → Nat.testBit b 0 = s → Nat.testBit b 1 = t → ∃ b, b < 2 ^ 2 ∧ ∀ q, q < 2 → (Nat.testBit b q = true → (e : Int) + 1 ≤ rdI M 453 (217 + 17 * v + q)) ∧ (Nat.testBit b q = false → rdI M 453 (217 + 17 * v + q) ≤ (e : Int) - 1) := by
        intro b hb b0 b1
        refine ⟨b, hb, fun q hq => ?_⟩
        have : q = 0 ∨ q = 1 := by omega
        rcases this with h9 | h9 <;> subst h9
        · rw [b0]; exact ⟨s1, s2⟩
        · rw [b1]; exact ⟨t1, t2⟩
      cases s <;> cases t
      · exact key 0 (by omega) (by decide) (by decide)
      · exact key 2 (by omega) (by decide) (by decide)
      · exact key 1 (by omega) (by decide) (by decide)
      · exact key 3 (by omega) (by decide) (by decide)
  have hb4 : b < 4 := by
    have : p = 0 ∨ p = 1 ∨ p = 2 := by omega
    rcases this with h9 | h9 | h9 <;> subst h9 <;> omega
  have hsd : sdE e p b = true := by
    have gen : ∀ q, q < 3 → (Bool.rec true (Bool.rec (Nat.ble 1 e) (Nat.ble e 10) (Nat.testBit b q)) (Nat.blt q p) : Bool) = true := by
      intro q hq
      cases hq2 : Nat.blt q p with
      | false => rfl
      | true =>
        have hq3 : q < p := Nat.le_of_ble_eq_true (show Nat.ble (q + 1) p = true from hq2)
        obtain ⟨t1, t2⟩ := hbt q hq3
        have := bm q hq
        show (Bool.rec (Nat.ble 1 e) (Nat.ble e 10) (Nat.testBit b q) : Bool) = true
        cases ht : Nat.testBit b q with
        | false => have := t2 ht; exact Nat.ble_eq_true_of_le (by omega)
        | true => have := t1 ht; exact Nat.ble_eq_true_of_le (by omega)
    exact allN_of gen
  have hch : chE1 e v st p b = true := by
    have g := allN_ok (allN_ok (allN_ok (chE e he) v hv) st hst) p hp3
    have g : (Bool.rec true (allN 4 (fun b => Bool.rec true (Bool.rec true (chE1 e v st p b) (sdE e p b)) (Nat.blt b (2 ^ p)))) (Nat.blt p st) : Bool) = true := g
    rw [show Nat.blt p st = true from Nat.ble_eq_true_of_le hps] at g
    have g := allN_ok g b hb4
    have g : (Bool.rec true (Bool.rec true (chE1 e v st p b) (sdE e p b)) (Nat.blt b (2 ^ p)) : Bool) = true := g
    rw [show Nat.blt b (2 ^ p) = true from Nat.ble_eq_true_of_le hb, hsd] at g
    exact g
  obtain ⟨ws, xs⟩ := band (show (Bool.rec false (xsegE kd0 sh0 rt0 bd0 un0 (inW (wE e v st p)) pr9 MT0 CT9 2 mdE [(((1, 0), (1, 0, 0), [k31 (216 + 17 * v) ((st : Int) - 1) ((st : Int) - 1), k31 (36 + 15 * e) 0 0], []), eqE v st p)] 2000 0 (spE e v st p b)) (ywsub (inW (ctE e).2.2.2.1) (wE e v st p)) : Bool) = true from hch)
  have fq : ∀ q, q < 3 → ∀ a, a = meE e v p b q → ∃ k i, Pl kd0 [] a.1 k i ∧ a.2.1 ≤ rdI M k i ∧ rdI M k i ≤ a.2.2 := by
    intro q hq a ha
    subst ha
    have hb9 := bm q hq
    unfold meE
    cases hq2 : Nat.blt q p with
    | true =>
      have hq3 : q < p := Nat.le_of_ble_eq_true (show Nat.ble (q + 1) p = true from hq2)
      obtain ⟨t1, t2⟩ := hbt q hq3
      cases ht : Nat.testBit b q with
      | false => exact fact_of (c := 453) (i := 217 + 17 * v + q) (by omega) ⟨hb9.1, t2 ht⟩
      | true => exact fact_of (c := 453) (i := 217 + 17 * v + q) (by omega) ⟨t1 ht, hb9.2⟩
    | false =>
      cases hq4 : Nat.beq q p with
      | true =>
        have e9 := Nat.eq_of_beq_eq_true hq4
        have e8 : rdI M 453 (217 + 17 * v + q) = (e : Int) := by rw [e9]; exact hpe
        exact fact_of (c := 453) (i := 217 + 17 * v + q) (by omega) ⟨Int.le_of_eq e8.symm, Int.le_of_eq e8⟩
      | false => exact fact_of (c := 453) (i := 217 + 17 * v + q) (by omega) hb9
  refine xsegE_ok (Ev := Ev) (C := 2000) (f := 1000000000000) hu0 (hang_T (kd := kd0)) (cs9 (D := 2) (k := k') hang_T hR hMT (by omega)) hmC xs (by omega) ⟨spI_ok h1, ?_, fun q hq => by cases hq⟩ hT trivial (fun r r1 r2 r3 q => ?_)
  · intro a ha
    rcases List.mem_cons.mp ha with e9 | ha
    · rw [e9]; exact fact_of (c := 453) (i := 36 + 15 * e) (lo := (v : Int) + 1) (hi := (v : Int) + 1) (by omega) ⟨by omega, by omega⟩
    rcases List.mem_cons.mp ha with e9 | ha
    · rw [e9]; exact fact_of (c := 453) (i := 216 + 17 * v) (lo := (st : Int)) (hi := (st : Int)) (by omega) ⟨by omega, by omega⟩
    rcases List.mem_cons.mp ha with e9 | ha
    · exact fq 0 (by omega) a e9
    rcases List.mem_cons.mp ha with e9 | ha
    · exact fq 1 (by omega) a e9
    · exact fq 2 (by omega) a (List.mem_singleton.mp ha)
  · obtain ⟨w, hw, hw1, hw2⟩ := q
    obtain rfl := List.mem_singleton.mp hw
    have hfr := r3.2.2
    have fr : ∀ i : Nat, (i < 217 + 17 * v + p ∨ 215 + 17 * v + st < i) → i ≠ 216 + 17 * v → i ≠ 36 + 15 * e → i ≠ 35 + 15 * e → i ≠ 6 → rdI r.2.2.2.2.2.1 453 i = rdI M 453 i := by
      intro i q0 q1 q2 q3 q4
      refine hfr 453 (by omega) i (inW_no (fun a ha _ => ?_))
      rcases List.mem_cons.mp ha with e9 | ha
      · rw [e9]; show (i : Int) < ((217 + 17 * v + p : Nat) : Int) ∨ ((215 + 17 * v + st : Nat) : Int) < (i : Int); omega
      rcases List.mem_cons.mp ha with e9 | ha
      · rw [e9]; show (i : Int) < ((216 + 17 * v : Nat) : Int) ∨ ((216 + 17 * v : Nat) : Int) < (i : Int); omega
      rcases List.mem_cons.mp ha with e9 | ha
      · rw [e9]; show (i : Int) < ((35 + 15 * e : Nat) : Int) ∨ ((36 + 15 * e : Nat) : Int) < (i : Int); omega
      · obtain rfl := List.mem_singleton.mp ha; show (i : Int) < 6 ∨ (6 : Int) < (i : Int); omega
    have oth : ∀ j : Nat, j < 466 → j ≠ 453 → ∀ i : Nat, rdI r.2.2.2.2.2.1 j i = rdI M j i := by
      intro j hj hj2 i
      refine hfr j hj i (inW_no (fun a ha ha2 => ?_))
      have e9 : a.1 = 31 := by
        rcases List.mem_cons.mp ha with e9 | ha
        · rw [e9]
        rcases List.mem_cons.mp ha with e9 | ha
        · rw [e9]
        rcases List.mem_cons.mp ha with e9 | ha
        · rw [e9]
        · obtain rfl := List.mem_singleton.mp ha; rfl
      rw [e9] at ha2
      exact absurd (kd31_of hj ha2.symm) hj2
    obtain ⟨hw3, hw4, hw5, hw6⟩ := hw1
    have g1 := fact_at hw5 (c := 453) (i := 216 + 17 * v) (lo := (st : Int) - 1) (hi := (st : Int) - 1) List.mem_cons_self
    have g2 := fact_at hw5 (c := 453) (i := 36 + 15 * e) (lo := 0) (hi := 0) (List.mem_cons_of_mem _ List.mem_cons_self)
    refine ⟨r1, r2, r3.1, Inv0_s ?_ (fun j hj hj2 i _ => oth j hj hj2 i) hInv, fun j hj i hi => hfr j hj i ?_, _, List.mem_singleton.mpr rfl, hw3, fun q => ?_, (fun q hq => by cases hq), (fun q hq => by cases hq)⟩
    · intro e' he' v' hv' q1
      rw [show 0 + (36 + 15 * e') = 36 + 15 * e' by omega] at q1
      by_cases n1 : e' = e
      · subst n1; omega
      · rw [fr _ (by omega) (by omega) (by omega) (by omega) (by omega)] at q1
        obtain ⟨p', p1, p2, p3⟩ := hInv.1 (453, 0) (by decide) e' he' v' hv' (by show rdI M 453 (0 + (36 + 15 * e')) = _; rw [show 0 + (36 + 15 * e') = 36 + 15 * e' by omega]; exact q1)
        have p2 : (p' : Int) < rdI M 453 (0 + (216 + 17 * v')) := p2
        have p3 : rdI M 453 (0 + (217 + 17 * v' + p')) = (e' : Int) := p3
        rw [show 0 + (216 + 17 * v') = 216 + 17 * v' by omega] at p2
        rw [show 0 + (217 + 17 * v' + p') = 217 + 17 * v' + p' by omega] at p3
        by_cases n2 : v' = v
        · subst n2
          have n3 : p' ≠ p := fun h9 => by rw [h9, hpe] at p3; omega
          by_cases n4 : p' < p
          · refine ⟨p', p1, ?_, ?_⟩
            · rw [show 0 + (216 + 17 * v') = 216 + 17 * v' by omega]; omega
            · rw [show 0 + (217 + 17 * v' + p') = 217 + 17 * v' + p' by omega, fr _ (by omega) (by omega) (by omega) (by omega) (by omega)]; exact p3
          · have h9 := hw2 _ (eqE_mem (v := v') (st := st) (p := p) (k := p' - 1) (by omega) (by omega))
            have h9 : rdI r.2.2.2.2.2.1 453 (217 + 17 * v' + (p' - 1)) = rdI M 453 (217 + 17 * v' + (p' - 1) + 1) := h9
            rw [show 217 + 17 * v' + (p' - 1) + 1 = 217 + 17 * v' + p' by omega] at h9
            refine ⟨p' - 1, by omega, ?_, ?_⟩
            · rw [show 0 + (216 + 17 * v') = 216 + 17 * v' by omega]; omega
            · rw [show 0 + (217 + 17 * v' + (p' - 1)) = 217 + 17 * v' + (p' - 1) by omega, h9]; exact p3
        · refine ⟨p', p1, ?_, ?_⟩
          · rw [show 0 + (216 + 17 * v') = 216 + 17 * v' by omega, fr _ (by omega) (by omega) (by omega) (by omega) (by omega)]; exact p2
          · rw [show 0 + (217 + 17 * v' + p') = 217 + 17 * v' + p' by omega, fr _ (by omega) (by omega) (by omega) (by omega) (by omega)]; exact p3
    · cases hs9 : inW (wE e v st p) (kd0 j) i with
      | false => rfl
      | true => rw [ywsub_ok ws _ _ hs9] at hi; cases hi
    · rw [hw3] at q; cases q
end CE9
