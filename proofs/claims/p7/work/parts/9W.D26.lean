/-! the end of a line goes forward by one: for each place of the text, by views -/
noncomputable def pSc (α : Nat) : List Pst := [((1, 0), (1, 0, 0), [fM 17 ((α : Int) + 1) 900, fM 20 0 0], []), ((1, 0), (1, 0, 0), [fM 17 ((α : Int) + 1) 901, fM 20 1 4], [])]
noncomputable def ctSc (α : Nat) : Ctr := ([(1, 452, 0)], [fM 17 α 900, fM 20 0 0], [], [(13, 17, 21)], pSc α)
theorem rn_objX {M : Mem} {k i : Nat} {q : Nat × List Nat} (hT : TI kd0 sh0 rt0 bd0 M) (hk : k < 466) (hs : sh0 (kd0 k) = .inl q) (hi : q.2[i]? = some 0) : rdI M k i = sg (rN M k i) ∧ rN M k i < 4294967296 := by
  obtain ⟨fs, e1, e2, e3⟩ := co_obj hT hk hs
  obtain ⟨x, x1, x2, -⟩ := e3 i 0 hi
  have a : rdI M k i = avI (nth fs i) := by
    show rdC (tget 9 M k) i = _
    rw [e1]
    rfl
  have b : rN M k i = rN1 (nth fs i) := by
    show rNc (tget 9 M k) i = _
    rw [e1]
    rfl
  rw [a, b, x1]
  exact ⟨rfl, x2⟩
theorem so_RX : ∃ q, sh0 (kd0 452) = .inl q ∧ q.2[16]? = some 0 ∧ q.2[17]? = some 0 ∧ q.2[20]? = some 0 := ⟨_, rfl, rfl, rfl, rfl⟩
theorem b16X : bdAt 452 16 0 900 = true := by decide +kernel
theorem sa462X : ∃ t, sh0 (kd0 462) = .inr (.inl (t, 900)) := ⟨_, rfl⟩
theorem un462X : un0 (kd0 462) = true := by decide +kernel
theorem bd462X : bd0 (kd0 462) 0 = (0, 255) := by decide +kernel
theorem by462X {M : Mem} (hT : TI kd0 sh0 rt0 bd0 M) {i : Nat} (hi : i < 900) : rN M 462 i < 256 := by
  obtain ⟨t, ht⟩ := sa462X
  obtain ⟨p, e1, -, e3⟩ := co_arr hT (show 462 < 466 by decide) ht
  have b : rN M 462 i = pget p i := by
    show rNc (tget 9 M 462) i = _
    rw [e1]
    rfl
  have h := e3 i hi
  rw [hu0 _ _ un462X, bd462X] at h
  have h9 := sg_small (pget_lt p i) (show 255 ≤ 2147483647 by decide) h.1 h.2
  rw [b]
  omega
theorem semi_ok {Ev : Env9} {α : Nat} (hα : α < 901) : CK Ev 20 (234, ctSc α) := by
  intro k hk vs M h1 h2 h3 hT hI
  have g17 := fact_at h2 (c := 452) (i := 17) (lo := (α : Int)) (hi := 900) List.mem_cons_self
  have g20 := fact_at h2 (c := 452) (i := 20) (lo := 0) (hi := 0) (List.mem_cons_of_mem _ List.mem_cons_self)
  have g16 := bdAt_ok b16X hT
  obtain ⟨r, e, r1, r2, r3, r4, r5, p, p1, p2⟩ := cc_246 (Ev := Ev) k (by omega) vs M h1 (prFa_app (l := [fM 17 0 900]) (prFa_1 (c := 452) (i := 17) (by decide) (by omega) g17.2) (fun a ha => h2 a (List.mem_cons_of_mem _ ha))) (fun q hq => by cases hq) hT hI
  obtain ⟨q, q0, q16, q17, q20⟩ := so_RX
  have n16 := rn_objX hT (show 452 < 466 by decide) q0 q16
  have n17 := rn_objX hT (show 452 < 466 by decide) q0 q17
  have n20 := rn_objX hT (show 452 < 466 by decide) q0 q20
  have b16 : rN M 452 16 ≤ 900 := sg_small n16.2 (by decide) (by rw [← n16.1]; exact g16.1) (by rw [← n16.1]; exact g16.2)
  have b17 : rN M 452 17 ≤ 900 := sg_small n17.2 (by decide) (by rw [← n17.1]; omega) (by rw [← n17.1]; exact g17.2)
  have b20 : rN M 452 20 ≤ 0 := sg_small n20.2 (by decide) (by rw [← n20.1]; exact g20.1) (by rw [← n20.1]; exact g20.2)
  have a17 : α ≤ rN M 452 17 := by
    have w := n17.1
    rw [sg_eq (show rN M 452 17 ≤ 2147483647 by omega)] at w
    omega
  have hb : ∀ i, btR (rN M) i < 256 ∨ btR (rN M) i = 4294967295 := fun i => by
    unfold btR
    by_cases w : i < rN M 452 16
    · rw [if_pos w]
      exact Or.inl (by462X hT (by omega))
    · rw [if_neg w]
      exact Or.inr rfl
  have hvs : vs = [vR 452] := match vs, h1 with
    | [a], h1 => by rw [show a = vR 452 from h1.1.1]
  subst hvs
  obtain ⟨g, hv, l1, l2⟩ := v_semiX (D := 0) (f := rN M) rfl b17 (by omega) b16 hb
  obtain ⟨v', S', L', M'', z', e', hv', -, hf⟩ := vM_ok (E := Ev) 3 k (by omega) 234 [vR 452] (rN M) M ((1, 0), vW 3, g) (wl_k (v := vR 452) trivial vwl_0) (TS_of hT) (fun _ _ _ => rfl) hv
  have e2 : some [r] = some [((1, 0), Ev, v', S', L', M'', 466, z')] := e.symm.trans e'
  injection e2 with e3
  injection e3 with e4
  subst e4
  have n17' := rn_objX (M := M'') r3 (show 452 < 466 by decide) q0 q17
  have s17 : rN M'' 452 17 = g 452 17 := hf 452 (by decide) 17
  have w17 : (α : Int) + 1 ≤ rdI M'' 452 17 := by
    rw [n17'.1, s17, sg_eq (show g 452 17 ≤ 2147483647 by omega)]
    omega
  refine ⟨_, e, r1, r2, r3, r4, r5, ?_⟩
  rcases List.mem_cons.mp p1 with z | z
  · subst z
    have w1 := fact_at p2.2.2.1 (c := 452) (i := 17) (lo := 1) (hi := 900) (List.mem_cons_of_mem _ List.mem_cons_self)
    have w0 := fact_at p2.2.2.1 (c := 452) (i := 20) (lo := 0) (hi := 0) List.mem_cons_self
    exact ⟨_, List.mem_cons_self, p2.1, p2.2.1, prFa_app (l := [fM 17 ((α : Int) + 1) 900]) (prFa_1 (c := 452) (i := 17) (by decide) w17 w1.2) (prFa_1 (c := 452) (i := 20) (by decide) w0.1 w0.2), fun q hq => by cases hq⟩
  · obtain rfl := List.mem_singleton.mp z
    have w1 := fact_at p2.2.2.1 (c := 452) (i := 17) (lo := 1) (hi := 901) (List.mem_cons_of_mem _ List.mem_cons_self)
    have w0 := fact_at p2.2.2.1 (c := 452) (i := 20) (lo := 1) (hi := 1) List.mem_cons_self
    exact ⟨_, List.mem_cons_of_mem _ List.mem_cons_self, p2.1, p2.2.1, prFa_app (l := [fM 17 ((α : Int) + 1) 901]) (prFa_1 (c := 452) (i := 17) (by decide) w17 w1.2) (prFa_1 (c := 452) (i := 20) (by decide) w0.1 (Int.le_trans w0.2 (by decide))), fun q hq => by cases hq⟩
section BYH
variable {call : Call} {j : Jmp} {t : Trm} {l : List Op1} {E : Env9} {n z : Nat} {L S : List AV} {M : Mem}
theorem rb_ldX {f : AV → Bool} {i : Nat} (h : f (nth L i) = true) : runB call j t (op_ld f i :: l) E n z L S M = runB call j t l E n z L (nth L i :: S) M := by
  show gd (f (nth L i)) (runB call j t l E n z L (nth L i :: S) M) = _
  rw [h]
  rfl
theorem rb_callV {g : List AV → Mem → Bool} {y na bud B : Nat} {as rest S' L' : List AV} {v : AV} {M' : Mem} {z' : Nat} (hS : spl na [] S = (as, rest)) (hl : Nat.ble na S.length = true) (hc : Nat.ble (catS rest) 8 = true) (hz : z + bud ≤ B) (hg : g as M = true) (hr : call y E n as M = some [((1, 0), E, v, S', L', M', 466, z')]) : runB call j t (op_call g y na bud B :: l) E n z L S M = runB call j t l E 466 (z + bud) L rest M' := by
  show op_call g y na bud B call (runB call j t l) E n z L S M = _
  unfold op_call
  rw [hS, hl, Nat.ble_eq_true_of_le hz]
  show gd true (gd (Nat.ble (catS rest) 8) (gd true (gd (g as M) (match call y E n as M with
    | some rs => joinR (fun r => match r with
      | ((0, _), E', v, _, _, M', n', _) => fN n' fun n' => runB call j t l E' n' (z + bud) L (v :: rest) M'
      | ((1, _), E', _, _, _, M', n', _) => fN n' fun n' => runB call j t l E' n' (z + bud) L rest M'
      | _ => none) rs
    | none => none)))) = _
  rw [hc, hg, hr]
  refine gd4 ?_
  rw [joinR_1]
  show fN 466 (fun n' => runB call j t l E n' (z + bud) L rest M') = _
  rw [fN_eq]
end BYH
theorem sh452X : ∃ q, sh0 (kd0 452) = .inl q ∧ q.1 = 11 := ⟨_, rfl, rfl⟩
theorem gv_ofX {M : Mem} {k ci : Nat} {as : List AV} (hT : TI kd0 sh0 rt0 bd0 M) (hk : k < 466) (h : ∃ q, sh0 (kd0 k) = .inl q ∧ q.1 = ci) : gV ci (vR k :: as) M = true := by
  obtain ⟨q, h1, h2⟩ := h
  obtain ⟨fs, e, -, -⟩ := co_obj hT hk h1
  show (match tget 9 M k with | .inl q => Nat.beq q.1 ci | _ => false : Bool) = true
  rw [e, ← h2]
  exact Nat.beq_refl _
