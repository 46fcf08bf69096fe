/-! errorCode, errorPosition: pairs of calls -/
theorem is_nmE : allN 12 (fun j => allN 7 (fun i => isSt (23 + 15 * j + i))) = true := by decide +kernel
theorem nm_rawE {M : Mem} (hT : TI kd0 sh0 rt0 bd0 M) (h : JX M) : ∃ E : Nat → Nat, ∀ j, j < rN M 7 2 → E j < 9223372036854775808 ∧ lsg (rN M (10 + j) 0) = lsg (E j) ∧ nmRow (rN M) (23 + 15 * j) (E j) := by
  obtain ⟨-, v, u, v', u', c, r, ⟨-, w, hw, hE, hV⟩, -⟩ := h
  obtain ⟨⟨n2, c2⟩, n3, c3⟩ := cnt9 hT (show 7 ∈ W9 by decide)
  obtain ⟨q, hq⟩ := sa_453
  have ew : ∀ i, i < 627 → isSt i = true → rN M 453 i = w i := fun i hi hs => by
    have b := rn_arr (k := 453) (i := i) hT (by decide) hq
    have s0 := r.1 i hi hs
    rw [Nat.zero_add] at s0
    exact sg_inj b.2 (hw i hi).2 (by rw [← b.1, s0]; exact (hw i hi).1)
  have ex : ∀ j, ∃ x, j < rN M 7 2 → x < 9223372036854775808 ∧ lsg (rN M (10 + j) 0) = lsg x ∧ nmRow (rN M) (23 + 15 * j) x := fun j => by
    by_cases hj : j < rN M 7 2
    · have k1 : j < 12 := by omega
      have k2 : (j : Int) < v 0 := by
        rw [← c.1.1, c2]
        omega
      obtain ⟨x, x1, x2, z, U, z1, z6, ez, ek, exx⟩ := hE j k1 k2
      refine ⟨x, fun _ => ⟨x1, ?_, z, U, z1, z6, ?_, fun k hk => ?_, exx⟩⟩
      · have a := rn5n hT (show 7 + 3 + j < 466 by omega) ((kW_ok (show 7 ∈ W9 by decide)).2.1 j k1)
        rw [show 10 + j = 7 + 3 + j by omega, ← a, (c.1.2.2.1 j k1 k2).2.2.2, x2]
      · exact (ew (23 + 15 * j) (by omega) (allN_ok (allN_ok is_nmE j k1) 0 (by decide))).trans ez
      · have e := ew (23 + 15 * j + (1 + k)) (by omega) (allN_ok (allN_ok is_nmE j k1) (1 + k) (by omega))
        rw [show 23 + 15 * j + (1 + k) = 23 + 15 * j + 1 + k by omega] at e
        rw [e]
        exact ek k hk
    · exact ⟨0, fun h => absurd h hj⟩
  exact ⟨fun j => Classical.choose (ex j), fun j hj => Classical.choose_spec (ex j) hj⟩
theorem is_nmV : allN 8 (fun j => allN 7 (fun i => isSt (203 + 17 * j + i))) = true := by decide +kernel
theorem nm_rawV {M : Mem} (hT : TI kd0 sh0 rt0 bd0 M) (h : JX M) : ∃ E : Nat → Nat, ∀ j, j < rN M 7 3 → E j < 9223372036854775808 ∧ lsg (rN M (22 + 3 * j) 0) = lsg (E j) ∧ nmRow (rN M) (203 + 17 * j) (E j) := by
  obtain ⟨-, v, u, v', u', c, r, ⟨-, w, hw, hE, hV⟩, -⟩ := h
  obtain ⟨⟨n2, c2⟩, n3, c3⟩ := cnt9 hT (show 7 ∈ W9 by decide)
  obtain ⟨q, hq⟩ := sa_453
  have ew : ∀ i, i < 627 → isSt i = true → rN M 453 i = w i := fun i hi hs => by
    have b := rn_arr (k := 453) (i := i) hT (by decide) hq
    have s0 := r.1 i hi hs
    rw [Nat.zero_add] at s0
    exact sg_inj b.2 (hw i hi).2 (by rw [← b.1, s0]; exact (hw i hi).1)
  have ex : ∀ j, ∃ x, j < rN M 7 3 → x < 9223372036854775808 ∧ lsg (rN M (22 + 3 * j) 0) = lsg x ∧ nmRow (rN M) (203 + 17 * j) x := fun j => by
    by_cases hj : j < rN M 7 3
    · have k1 : j < 8 := by omega
      have k2 : (j : Int) < v 1 := by
        rw [← c.1.2.1, c3]
        omega
      obtain ⟨x, x1, x2, z, U, z1, z6, ez, ek, exx⟩ := hV j k1 k2
      refine ⟨x, fun _ => ⟨x1, ?_, z, U, z1, z6, ?_, fun k hk => ?_, exx⟩⟩
      · have a := rn6n hT (show 7 + 15 + 3 * j < 466 by omega) ((kW_ok (show 7 ∈ W9 by decide)).2.2 j k1)
        rw [show 22 + 3 * j = 7 + 15 + 3 * j by omega, ← a, (c.1.2.2.2 j k1 k2).2.2, x2]
      · exact (ew (203 + 17 * j) (by omega) (allN_ok (allN_ok is_nmV j k1) 0 (by decide))).trans ez
      · have e := ew (203 + 17 * j + (1 + k)) (by omega) (allN_ok (allN_ok is_nmV j k1) (1 + k) (by omega))
        rw [show 203 + 17 * j + (1 + k) = 203 + 17 * j + 1 + k by omega] at e
        rw [e]
        exact ek k hk
    · exact ⟨0, fun h => absurd h hj⟩
  exact ⟨fun j => Classical.choose (ex j), fun j hj => Classical.choose_spec (ex j) hj⟩
def Th2K (E : Env9) (y : Nat) (as : List AV) (w : Nat) (bs : List AV) (M : Mem) : Prop := ∃ (x1 x2 : Nat) (S1 L1 : List AV) (M1 : Mem) (z1 : Nat) (S2 L2 : List AV) (M2 : Mem) (z2 : Nat), runM 200 y E 466 as M = some [((0, 0), E, vI x1, S1, L1, M1, 466, z1)] ∧ JI M1 ∧ runM 200 w E 466 bs M1 = some [((0, 0), E, vI x2, S2, L2, M2, 466, z2)] ∧ JI M2 ∧ RZ M2
theorem th2k_up {E : Env9} {y w : Nat} {as bs : List AV} {M : Mem} {c1 c2 : Ctr} (hJ : JI M) (hR : RZ M) (g1 : CtrOK kd0 sh0 rt0 bd0 Inv0 E (runM 200) y c1) (l1 : lcJ c1 0 = true) (a1 : asOK kd0 c1.1 as) (w1 : nwE c1 = true) (g2 : CtrOK kd0 sh0 rt0 bd0 Inv0 E (runM 200) w c2) (l2 : lcJ c2 0 = true) (a2 : asOK kd0 c2.1 bs) (w2 : nwE c2 = true) (h : Th2 E y as w bs M) : Th2K E y as w bs M := by
  obtain ⟨x1, x2, S1, L1, M1, z1, S2, L2, M2, z2, e1, J1, e2, J2, R2⟩ := h
  exact ⟨x1, x2, S1, L1, M1, z1, S2, L2, M2, z2, e1, J1, e2, J2, R2, re_k (nwE_ok w2 (kw_run g2 l2 a2 J1 e2)) (re_k (nwE_ok w1 (kw_run g1 l1 a1 hJ e1)) hR.2)⟩
theorem we_345 : nwE cl_345 = true := by decide +kernel
theorem we_346 : nwE cl_346 = true := by decide +kernel
theorem we_147 : nwE ct_147 = true := by decide +kernel
theorem we_148 : nwE ct_148 = true := by decide +kernel
theorem we_136 : nwE ct_136 = true := by decide +kernel
theorem we_329 : nwE ctSave = true := by decide +kernel
theorem we_385 : nwE cl_385 = true := by decide +kernel
theorem we_330 : nwE ctRest = true := by decide +kernel
theorem th2k_tru {E : Env9} {M : Mem} (hJ : JI M) (hR : RZ M) {x : Nat} (hx : x < 4294967296) : Th2K E 346 [vR 0, vI x, vR 465] 227 [vR 452, vI x] M :=
  th2k_up hJ hR (kl_346 200 (by decide)) lj_346 (show asOK kd0 cl_346.1 [vR 0, vI x, vR 465] from ⟨a0, aFull x hx, a465, trivial⟩) we_346 (cc_148 200 (by decide)) lj_227 (show asOK kd0 ct_148.1 [vR 452, vI x] from ⟨a452, aFull x hx, trivial⟩) we_148 (th2_tru hJ hR.1 hx)
theorem th2k_app {E : Env9} {M : Mem} (hJ : JI M) (hR : RZ M) {a b c d e : Nat} (ha : a < 4294967296) (hb : b < 4294967296) (hc : c < 4294967296) (hd : d < 4294967296) (he : e < 4294967296) : Th2K E 345 [vR 0, vI a, vI b, vI c, vI d, vI e, vR 465] 226 [vR 452, vI a, vI b, vI c, vI d, vI e] M :=
  th2k_up hJ hR (kl_345 200 (by decide)) lj_345 (show asOK kd0 cl_345.1 [vR 0, vI a, vI b, vI c, vI d, vI e, vR 465] from ⟨a0, aFull a ha, aFull b hb, aFull c hc, aFull d hd, aFull e he, a465, trivial⟩) we_345 (cc_147 200 (by decide)) lj_226 (show asOK kd0 ct_147.1 [vR 452, vI a, vI b, vI c, vI d, vI e] from ⟨a452, aFull a ha, aFull b hb, aFull c hc, aFull d hd, aFull e he, trivial⟩) we_147 (th2_app hJ hR.1 ha hb hc hd he)
theorem th2k_save {E : Env9} {M : Mem} (hJ : JI M) (hR : RZ M) : Th2K E 157 [vR 0] 329 [vR 452] M :=
  th2k_up hJ hR (cc_136 200 (by decide)) lj_157 (show asOK kd0 ct_136.1 [vR 0] from ⟨a0, trivial⟩) we_136 (save_ok 200 (by decide)) lj_329 (show asOK kd0 ctSave.1 [vR 452] from ⟨a452, trivial⟩) we_329 (th2_save hJ hR.1)
theorem th2k_rest {E : Env9} {M : Mem} (hJ : JI M) (hR : RZ M) : Th2K E 385 [vR 0, vR 465] 330 [vR 452] M :=
  th2k_up hJ hR (kl_385 200 (by decide)) lj_385 (show asOK kd0 cl_385.1 [vR 0, vR 465] from ⟨a0, a465, trivial⟩) we_385 (rest_ok 200 (by decide)) lj_330 (show asOK kd0 ctRest.1 [vR 452] from ⟨a452, trivial⟩) we_330 (th2_rest hJ hR.1)
theorem soE0 : ∃ q, sh0 (kd0 0) = .inl q ∧ q.2[13]? = some 0 ∧ q.2[14]? = some 0 := ⟨_, rfl, rfl, rfl⟩
theorem soE2 : ∃ q, sh0 (kd0 452) = .inl q ∧ q.2[22]? = some 0 ∧ q.2[23]? = some 0 := ⟨_, rfl, rfl, rfl⟩
theorem re_of {M1 M2 : Mem} (T1 : TI kd0 sh0 rt0 bd0 M1) (T2 : TI kd0 sh0 rt0 bd0 M2) {x y : Nat} (c13 : rdI M2 0 13 = rdI M1 0 13) (c14 : rdI M2 0 14 = rdI M1 0 14) (a : rN M1 0 13 = x) (b : rN M1 0 14 = y) (c : rN M2 452 22 = x) (d : rN M2 452 23 = y) : RE M2 := by
  obtain ⟨q, q1, q13, q14⟩ := soE0
  obtain ⟨r, r1, r22, r23⟩ := soE2
  refine ⟨?_, ?_⟩
  · rw [c13, (rn_obj (k := 0) (i := 13) T1 (by decide) q1 q13).1, (rn_obj (k := 452) (i := 22) T2 (by decide) r1 r22).1, a, c]
  · rw [c14, (rn_obj (k := 0) (i := 14) T1 (by decide) q1 q14).1, (rn_obj (k := 452) (i := 23) T2 (by decide) r1 r23).1, b, d]
theorem n13_252 : inW ctLoad.2.2.2.1 (kd0 0) ((13 : Nat) : Int) = false := by decide +kernel
theorem n14_252 : inW ctLoad.2.2.2.1 (kd0 0) ((14 : Nat) : Int) = false := by decide +kernel
theorem n13_259 : inW ctZ.2.2.2.1 (kd0 0) ((13 : Nat) : Int) = false := by decide +kernel
theorem n14_259 : inW ctZ.2.2.2.1 (kd0 0) ((14 : Nat) : Int) = false := by decide +kernel
theorem lj_348x : lcJ cl_348 0 = true := by decide +kernel
theorem lj_259x : lcJ ctZ 0 = true := by decide +kernel
theorem lx_348 : lcX cl_348 0 true false = true := by decide +kernel
theorem lx_259 : lcX ctZ 0 false true = true := by decide +kernel
theorem nw_348 : noW cl_348 (kd0 453) = true := by decide +kernel
theorem w2_1 : WL [vR 0, vR 465] := wl_k (v := vR 0) trivial wl_1
theorem th2k_load {E : Env9} {M : Mem} (hJ : JI M) (hR : RZ M) : Th2K E 347 [vR 0, vR 465] 252 [vR 452] M := by
  obtain ⟨x1, x2, S1, L1, M1, z1, S2, L2, M2, z2, e1, J1, e2, J2, R2⟩ := th2_load (E := E) hJ hR.1
  refine ⟨x1, x2, S1, L1, M1, z1, S2, L2, M2, z2, e1, J1, e2, J2, R2, ?_⟩
  obtain ⟨v3, S3, L3, M3, z3, e3, ⟨p, p1, -, -, p4⟩, J3, K1⟩ := calG9_of (kl_347 (Ev := E) 200 (by decide)) lj_347 (show asOK kd0 cl_347.1 [vR 0, vR 465] from ⟨a0, a465, trivial⟩) M hJ
  obtain ⟨-, b⟩ := run_1 e1 e3
  subst b
  have k1 : KB true false M M1 := kb_of hJ.1 J1.1 (by decide +kernel) (by decide +kernel) (by decide +kernel) (by decide +kernel) K1 p1 p4
  have K2 := kw_run (f_load (Ev := E) 200 (by decide)) lj_252 (show asOK kd0 ctLoad.1 [vR 452] from ⟨a452, trivial⟩) J1 e2
  obtain ⟨a1, a2⟩ := v_LloadC (D := 186) (txC_M hJ.1)
  obtain ⟨b1, b2⟩ := v_loadR (D := 187) (txR_M hJ.1 hR.1.1 k1.2.1 k1.2.2.2)
  have c13 : rdI M2 0 13 = rdI M1 0 13 := K2 0 (by decide) 13 n13_252
  have c14 : rdI M2 0 14 = rdI M1 0 14 := K2 0 (by decide) 14 n14_252
  by_cases k : (oCfg (bt (rN M))).1.1 = 0
  · obtain ⟨g, u1, -, g13, g14, -⟩ := a1 k
    obtain ⟨h, p', u2, -, h22, h23, -⟩ := b1 k
    obtain ⟨-, r2⟩ := vcall (E := E) hJ.1 w2_1 u1 e1
    obtain ⟨-, r4⟩ := vcall (E := E) J1.1 wl_1 u2 e2
    exact re_of J1.1 J2.1 c13 c14 ((r2 0 (by decide) 13).trans ((vup_ne (Or.inl (by decide))).trans g13)) ((r2 0 (by decide) 14).trans ((vup_ne (Or.inl (by decide))).trans g14)) ((r4 452 (by decide) 22).trans h22) ((r4 452 (by decide) 23).trans h23)
  · obtain ⟨g, u1, -, g13, g14, -⟩ := a2 k
    obtain ⟨h, u2, -, h22, h23⟩ := b2 k
    obtain ⟨-, r2⟩ := vcall (E := E) hJ.1 w2_1 u1 e1
    obtain ⟨-, r4⟩ := vcall (E := E) J1.1 wl_1 u2 e2
    exact re_of J1.1 J2.1 c13 c14 ((r2 0 (by decide) 13).trans g13) ((r2 0 (by decide) 14).trans g14) ((r4 452 (by decide) 22).trans h22) ((r4 452 (by decide) 23).trans h23)
/-! the law's helper of executeCommands where the text has no error -/
section BYK
variable {call : Call} {j : Jmp} {t : Trm} {l : List Op1} {E : Env9} {n z : Nat} {L S : List AV} {M : Mem}
theorem rb_callH {g : List AV → Mem → Bool} {y na bud B t9 : Nat} {hd : List Nat} {as rest S' L' : List AV} {v : AV} {M' : Mem} {z' : Nat} (hS : spl na [] S = (as, rest)) (hl : Nat.ble na S.length = true) (hc : Nat.ble (catS rest) 8 = true) (hz : z + bud ≤ B) (hg : g as M = true) (hr : call y E n as M = some [((0, 0), E, v, S', L', M', 466, z')]) : runB call j (tm_callH g y na bud B t9 hd) [] E n z L S M = j t9 E 466 (z + bud) L (v :: rest) M' := by
  show tm_callH g y na bud B t9 hd call j E n z L S M = _
  unfold tm_callH
  rw [hS, hl, Nat.ble_eq_true_of_le hz]
  show gd true (gd (Nat.ble (catS rest) 8) (gd true (gd (g as M) (match call y E n as M with
    | some rs => joinR (fun r => match r with
      | ((0, _), E', v, _, _, M', n', _) => fN n' fun n' => j t9 E' n' (z + bud) L (v :: rest) M'
      | ((1, _), E', _, _, _, M', n', _) => fN n' fun n' => j t9 E' n' (z + bud) L rest M'
      | ((2, x), E', _, _, _, M', n', _) => fN n' fun n' => hcase (nthN hd 0 x) fun b => j b E' n' (z + bud) L [vW 1] M'
      | _ => none) rs
    | none => none)))) = _
  rw [hc, hg, hr]
  refine gd4 ?_
  rw [joinR_1]
  show fN 466 (fun n' => j t9 E n' (z + bud) L (v :: rest) M') = _
  rw [fN_eq]
theorem rb_i2lX {x : Nat} : runB call j t (op_i2l :: l) E n z L (vI x :: S) M = runB call j t l E n z L (vJ (toNL (nI x).toInt64) :: S) M := by
  show fN (toNL (nI x).toInt64) (fun r => runB call j t l E n z L (vJ r :: S) M) = _
  rw [fN_eq]
theorem rb_lastX {xs : List AV} {a y : Nat} (h : tget 9 M a = cL xs) (hl : 0 < xs.length) : runB call j t (op_last :: l) E n z L (vJ y :: vI 0 :: vR a :: S) M = runB call j t l E n z L S (tset 9 M a (cL (nst xs 0 (vJ y)))) := by
  show gd true (match tget 9 M a with
    | .inr (.inr (.inr q)) => gd (Nat.ble (0 + 1) q.length) (runB call j t l E n z L S (tset 9 M a (.inr (.inr (.inr (nst q 0 (vJ y)))))))
    | _ => none) = _
  rw [h]
  show gd (Nat.ble (0 + 1) xs.length) (runB call j t l E n z L S (tset 9 M a (cL (nst xs 0 (vJ y))))) = _
  rw [Nat.ble_eq_true_of_le (show 0 + 1 ≤ xs.length from hl)]
  rfl
end BYK
theorem rd_465 {M : Mem} {c : Cel} {i : Nat} : rdI (tset 9 M 465 c) 0 i = rdI M 0 i := by
  show rdC (tget 9 (tset 9 M 465 c) 0) i = rdC (tget 9 M 0) i
  rw [tget_tset 9 M 465 0 c (by decide) (by decide), if_neg (by decide)]
theorem exC_L {E : Env9} {M M1 : Mem} (hJ : JI M) {n c d x1 z1 : Nat} {S1 L1 : List AV} {T N V : Nat → Nat} (hB : CB (rN M) n T N c V d) (h0 : (oCm T N c V d 30 0).1 = 0) (e1 : runM 200 348 E 466 [vR 0, vR 465] M = some [((0, 0), E, vI x1, S1, L1, M1, 466, z1)]) : rdI M1 0 13 = 0 ∧ rdI M1 0 14 = -1 := by
  obtain ⟨r, er, hX⟩ := exC_ok (Ev := E) (k := 199) (by decide) hJ.1 hJ.2.1 hB h0
  obtain ⟨r', er', q1, q2, q3, -, -, p, p1, p2⟩ := f_exec (Ev := E) 199 (by decide) [vR 0] M (show asOK kd0 ctX.1 [vR 0] from ⟨a0, trivial⟩) (fun a ha => by cases ha) (fun a ha => by cases ha) hJ.1 hJ.2.1
  have e2 : some [r] = some [r'] := er.symm.trans er'
  injection e2 with e3
  injection e3 with e4
  subst e4
  obtain ⟨c0, E', v, S', L', M', n', z'⟩ := r
  have h1 : E' = E := q1
  have h2 : n' = 466 := q2
  have h3 : c0 = (0, 0) := hX.1
  subst h1
  subst h2
  subst h3
  obtain ⟨x, hx⟩ : ∃ x, v = vI x := by
    rcases List.mem_cons.mp p1 with w | w
    · subst w
      exact absurd (show ((0, 0) : Nat × Nat) = (2, 1) from p2.1) (by decide)
    · obtain rfl := List.mem_singleton.mp w
      exact ans0 ⟨(0, -2147483648, 2147483647), rfl, p2.2.1 rfl⟩
  subst hx
  obtain ⟨d9, ct, hmC, hrun⟩ := (show MDOK bo9 348 (3, nb_L_executeCommands, []) from mo_L_executeCommands rfl _)
  have e9 : runM (199 + 1) 348 E' 466 [vR 0, vR 465] M = runF (runM 199) d9 ct 1000000000000 0 E' 466 0 [vR 0, vR 465, vW 3] [] M := (hR9 199 348 E' 466 [vR 0, vR 465] M).trans ((hrun (runM 199) E' 466 [vR 0, vR 465] M).trans rfl)
  have b0 : tget d9 ct 0 = ([op_ld (fP 2) 1, op_push (vI 0), op_ld (fP 2) 0], tm_callH (gV 10) 102 1 7 7 1 [0, 3, 0]) := hmC 0 _ rfl
  have b1 : tget d9 ct 1 = ([op_i2l, op_last], tm_goto 3) := hmC 1 _ rfl
  have b3 : tget d9 ct 3 = ([op_push (vI 0)], tm_ret (fP 0) 7) := hmC 3 _ rfl
  obtain ⟨f, ef⟩ : ∃ f, 1000000000000 = f + 1 + 1 + 1 := ⟨999999999997, rfl⟩
  obtain ⟨N9, s1, s2⟩ := sl_465
  obtain ⟨xs, y1, y2, -⟩ := co_lng q3 (show 465 < 466 by decide) s1
  have fin : runM (199 + 1) 348 E' 466 [vR 0, vR 465] M = some [((0, 0), E', vI 0, [], [], tset 9 M' 465 (cL (nst xs 0 (vJ (toNL (nI x).toInt64)))), 466, 0 + 7)] := by
    rw [e9, ef, rF9 (f + 1 + 1) b0]
    refine (rb_ld rfl).trans (rb_push.trans ((rb_ld rfl).trans ((rb_callH (as := [vR 0]) (rest := [vI 0, vR 465]) rfl rfl rfl (by decide) (gv_of hJ.1 (by decide) sh_0) er).trans ?_)))
    rw [rF9 (f + 1) b1]
    refine rb_i2lX.trans ((rb_lastX y1 (by rw [y2]; exact s2)).trans (rb_goto9.trans ?_))
    rw [rF9 f b3]
    exact rb_push.trans rfl
  obtain ⟨-, b⟩ := run_1 e1 fin
  rw [b, rd_465, rd_465]
  exact hX.2
noncomputable def mE (E : Nat → Nat) (g : Nat → Nat → Nat) (j i : Nat) : Nat := Nat.rec (E j) (fun i _ => g j (i + 1)) i
set_option maxHeartbeats 8000000 in
theorem th2k_exec {E : Env9} {M : Mem} (hJ : JI M) (hR : RZ M) : Th2K E 348 [vR 0, vR 465] 259 [vR 452] M := by
  obtain ⟨v1, S1, L1, M1, z1, e1, an1, J1, k1⟩ := calX_of (kl_348 (Ev := E) 200 (by decide)) (fun v u v' u' => gl_348 (v := v) (u := u) (v' := v') (u' := u') 200 (by decide)) lx_348 (show asOK kd0 cl_348.1 [vR 0, vR 465] from ⟨a0, a465, trivial⟩) M hJ
  obtain ⟨v2, S2, L2, M2, z2, e2, an2, J2, k2⟩ := calX_of (f_execR (Ev := E) 200 (by decide)) (fun v u v' u' => g1_Z (v := v) (u := u) (v' := v') (u' := u') 200 (by decide)) lx_259 (show asOK kd0 ctZ.1 [vR 452] from ⟨a452, trivial⟩) M1 J1
  obtain ⟨x1, rfl⟩ := ans0 an1
  obtain ⟨x2, rfl⟩ := ans0 an2
  refine ⟨x1, x2, S1, L1, M1, z1, S2, L2, M2, z2, e1, J1, e2, J2, rj_two hR.1 k1 k2, ?_⟩
  have K1 := kw_run (kl_348 (Ev := E) 200 (by decide)) lj_348x (show asOK kd0 cl_348.1 [vR 0, vR 465] from ⟨a0, a465, trivial⟩) hJ e1
  have K2 := kw_run (f_execR (Ev := E) 200 (by decide)) lj_259x (show asOK kd0 ctZ.1 [vR 452] from ⟨a452, trivial⟩) J1 e2
  have c13 : rdI M2 0 13 = rdI M1 0 13 := K2 0 (by decide) 13 n13_259
  have c14 : rdI M2 0 14 = rdI M1 0 14 := K2 0 (by decide) 14 n14_259
  obtain ⟨E9, hE⟩ := nm_rawE hJ.1 hR.1.2
  obtain ⟨V9, hV⟩ := nm_rawV hJ.1 hR.1.2
  obtain ⟨⟨n2, -⟩, n3, -⟩ := cnt9 hJ.1 (show 7 ∈ W9 by decide)
  obtain ⟨jc, jd⟩ := JX_cnt hJ.1 hR.1.2
  have hB : CB (rN M) (rN M 1 1) (bt (rN M)) E9 (rN M 7 2) V9 (rN M 7 3) := ⟨txC_M hJ.1, rfl, n2, fun j hj => ⟨(hE j hj).2.1, (hE j hj).1⟩, rfl, n3, fun j hj => ⟨(hV j hj).2.1, (hV j hj).1⟩⟩
  have f453 : ∀ i, rN M1 453 i = rN M 453 i := fun i => by
    obtain ⟨q, hq⟩ := sa_453
    have b := rn_arr (k := 453) (i := i) J1.1 (by decide) hq
    have c := rn_arr (k := 453) (i := i) hJ.1 (by decide) hq
    exact sg_inj b.2 c.2 (by rw [← b.1, ← c.1]; exact K1 453 (by decide) i (noW_ok nw_348 _))
  have g453 : ∀ i, sta (rN M1) 453 i = rN M 453 i := fun i => (sta_o (Or.inl (by decide))).trans (f453 i)
  have nmr9 : ∀ {a x : Nat}, nmRow (rN M) a x → nmRow (sta (rN M1)) a x := fun h => by
    obtain ⟨z, U, a1, a2, a3, a4, a5⟩ := h
    exact ⟨z, U, a1, a2, (g453 _).trans a3, fun k hk => ⟨(g453 _).trans (a4 k hk).1, (a4 k hk).2⟩, a5⟩
  have hx := txR_M hJ.1 hR.1.1 k1.1.2.1 k1.1.2.2.2
  have hRS : RS (rN M 1 1) (bt (rN M)) (mE E9 (fun j i => rN M 453 (29 + 15 * j + i))) (mE V9 (fun j i => rN M 453 (209 + 17 * j + i))) (rN M 7 2) (rN M 7 3) 0 (sta (rN M1)) := by
    refine ⟨txR_up (by decide) (txR_up (by decide) (txR_up (by decide) (txR_up (by decide) hx))), ?_, Nat.zero_le _, ⟨?_, vup_eq⟩, (g453 0).trans jc.symm, n2, (g453 1).trans jd.symm, n3, fun j hj => ⟨nmr9 (hE j hj).2.2, fun i h1 h2 => ?_⟩, fun j hj => ⟨nmr9 (hV j hj).2.2, fun i h1 h2 => ?_⟩⟩
    · exact (vup_ne (Or.inr (by decide))).trans ((vup_ne (Or.inr (by decide))).trans ((vup_ne (Or.inr (by decide))).trans vup_eq))
    · exact (vup_ne (Or.inr (by decide))).trans vup_eq
    · obtain ⟨i', rfl⟩ : ∃ i', i = i' + 1 := ⟨i - 1, by omega⟩
      exact g453 _
    · obtain ⟨i', rfl⟩ : ∃ i', i = i' + 1 := ⟨i - 1, by omega⟩
      exact g453 _
  have X : ((oCm (bt (rN M)) E9 (rN M 7 2) V9 (rN M 7 3) 30 0).1 ≠ 0 → ∃ (v : AV) (S L : List AV) (M' : Mem) (z : Nat), runM 200 259 E 466 [vR 452] M1 = some [((0, 0), E, v, S, L, M', 466, z)] ∧ rN M' 452 22 = (oCm (bt (rN M)) E9 (rN M 7 2) V9 (rN M 7 3) 30 0).1 ∧ rN M' 452 23 = (oCm (bt (rN M)) E9 (rN M 7 2) V9 (rN M 7 3) 30 0).2) ∧ ((oCm (bt (rN M)) E9 (rN M 7 2) V9 (rN M 7 3) 30 0).1 = 0 → OKo (runM 200 259 E 466 [vR 452] M1) ZeP) := exR_ok (Ev := E) (k := 200) (by decide) J1.1 J1.2.1 J1.2.2 hRS
  by_cases k : (oCm (bt (rN M)) E9 (rN M 7 2) V9 (rN M 7 3) 30 0).1 = 0
  · obtain ⟨a13, a14⟩ := exC_L hJ hB k e1
    obtain ⟨r, er, hr⟩ := X.2 k
    have e3 : some [r] = some [((0, 0), E, vI x2, S2, L2, M2, 466, z2)] := er.symm.trans e2
    injection e3 with e4
    injection e4 with e5
    subst e5
    have b22 : rdI M2 452 22 = 0 := hr.2.1
    have b23 : rdI M2 452 23 = -1 := hr.2.2
    exact ⟨by rw [c13, a13, b22], by rw [c14, a14, b23]⟩
  · obtain ⟨g, u1, g13, g14⟩ := v_LexecC_e (D := 186) hB k
    obtain ⟨-, r2⟩ := vcall (E := E) hJ.1 w2_1 u1 e1
    obtain ⟨v9, S9, L9, M9, z9, er, h22, h23⟩ := X.1 k
    obtain ⟨-, b⟩ := run_1 e2 er
    subst b
    exact re_of J1.1 J2.1 c13 c14 ((r2 0 (by decide) 13).trans g13) ((r2 0 (by decide) 14).trans g14) h22 h23
/-! both answer the same -/
theorem v_erC {D : Nat} {f : Vw} : vM MT0 (D + 1) 103 [vR 0] f = some ((0, 0), vI (f 0 13), f) := vM_go rfl rfl rfl rfl fun F hF => (vF_g rfl rfl).trans rfl
theorem v_epC {D : Nat} {f : Vw} : vM MT0 (D + 1) 104 [vR 0] f = some ((0, 0), vI (f 0 14), f) := vM_go rfl rfl rfl rfl fun F hF => (vF_g rfl rfl).trans rfl
theorem v_erR {D : Nat} {f : Vw} : vM MT0 (D + 1) 245 [vR 452] f = some ((0, 0), vI (vup f 452 6 0 452 22), vup f 452 6 0) := vM_go rfl rfl rfl rfl fun F hF => (vF_g rfl rfl).trans rfl
theorem v_epR {D : Nat} {f : Vw} : vM MT0 (D + 1) 246 [vR 452] f = some ((0, 0), vI (vup f 452 6 0 452 23), vup f 452 6 0) := vM_go rfl rfl rfl rfl fun F hF => (vF_g rfl rfl).trans rfl
theorem err_q {E : Env9} {M M1 M2 : Mem} {x1 x2 : Nat} {S1 L1 S2 L2 : List AV} {z1 z2 : Nat} (hJ : JI M) (hl : RZ M) (J1 : JI M1) (R1 : RZ M1) (e1 : runM 200 103 E 466 [vR 0] M = some [((0, 0), E, vI x1, S1, L1, M1, 466, z1)]) (e2 : runM 200 245 E 466 [vR 452] M1 = some [((0, 0), E, vI x2, S2, L2, M2, 466, z2)]) : x1 = x2 := by
  obtain ⟨q, q1, q13, q14⟩ := soE0
  obtain ⟨r, s1, r22, r23⟩ := soE2
  obtain ⟨r1, r2⟩ := vcall (E := E) hJ.1 wl_1 (v_erC (D := 194)) e1
  obtain ⟨r3, -⟩ := vcall (E := E) J1.1 wl_1 (v_erR (D := 194)) e2
  have r1 : vI x1 = vI (rN M 0 13) := r1
  have r3 : vI x2 = vI (vup (rN M1) 452 6 0 452 22) := r3
  injection r1 with r1
  injection r3 with r3
  rw [vup_ne (Or.inr (by decide))] at r3
  have b := rn_obj (k := 0) (i := 13) J1.1 (by decide) q1 q13
  have c := rn_obj (k := 452) (i := 22) J1.1 (by decide) s1 r22
  rw [r1, r3, ← r2 0 (by decide) 13]
  exact sg_inj b.2 c.2 (by rw [← b.1, ← c.1]; exact R1.2.1)
theorem erp_q {E : Env9} {M M1 M2 : Mem} {x1 x2 : Nat} {S1 L1 S2 L2 : List AV} {z1 z2 : Nat} (hJ : JI M) (hl : RZ M) (J1 : JI M1) (R1 : RZ M1) (e1 : runM 200 104 E 466 [vR 0] M = some [((0, 0), E, vI x1, S1, L1, M1, 466, z1)]) (e2 : runM 200 246 E 466 [vR 452] M1 = some [((0, 0), E, vI x2, S2, L2, M2, 466, z2)]) : x1 = x2 := by
  obtain ⟨q, q1, q13, q14⟩ := soE0
  obtain ⟨r, s1, r22, r23⟩ := soE2
  obtain ⟨r1, r2⟩ := vcall (E := E) hJ.1 wl_1 (v_epC (D := 194)) e1
  obtain ⟨r3, -⟩ := vcall (E := E) J1.1 wl_1 (v_epR (D := 194)) e2
  have r1 : vI x1 = vI (rN M 0 14) := r1
  have r3 : vI x2 = vI (vup (rN M1) 452 6 0 452 23) := r3
  injection r1 with r1
  injection r3 with r3
  rw [vup_ne (Or.inr (by decide))] at r3
  have b := rn_obj (k := 0) (i := 14) J1.1 (by decide) q1 q14
  have c := rn_obj (k := 452) (i := 23) J1.1 (by decide) s1 r23
  rw [r1, r3, ← r2 0 (by decide) 14]
  exact sg_inj b.2 c.2 (by rw [← b.1, ← c.1]; exact R1.2.2)
