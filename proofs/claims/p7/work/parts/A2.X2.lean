/-! the program's executeCommands of a text without an error -/
section BYH2
variable {call : Call} {j : Jmp} {t : Trm} {l : List Op1} {E : Env9} {n z : Nat} {L S : List AV} {M : Mem}
theorem rb_callB {g : List AV → Mem → Bool} {y na bud B : Nat} {as rest S' L' : List AV} {v : AV} {M' : Mem} {z' : Nat} (hS : spl na [] S = (as, rest)) (hl : Nat.ble na S.length = true) (hc : Nat.ble (catS rest) 8 = true) (hz : z + bud ≤ B) (hg : g as M = true) (hr : call y E n as M = some [((0, 0), E, v, S', L', M', 466, z')]) : runB call j t (op_call g y na bud B :: l) E n z L S M = runB call j t l E 466 (z + bud) L (v :: rest) M' := by
  show op_call g y na bud B call (runB call j t l) E n z L S M = _
  unfold op_call
  rw [hS, hl, Nat.ble_eq_true_of_le hz]
  show gd true (gd (Nat.ble (catS rest) 8) (gd true (gd (g as M) (match call y E n as M with
    | some rs => joinR (fun r => match r with
      | ((0, _), E', v, _, _, M', n', _) => fN n' fun n' => runB call j t l E' n' (z + bud) L (v :: rest) M'
      | ((1, _), E', _, _, _, M', n', _) => fN n' fun n' => runB call j t l E' n' (z + bud) L rest M'
      | _ => none) rs
    | none => none)))) = _
  rw [hc, hg, hr]
  refine gd4 ?_
  rw [joinR_1]
  show fN 466 (fun n' => runB call j t l E n' (z + bud) L (v :: rest) M') = _
  rw [fN_eq]
theorem rb_getfB {ci i a : Nat} {fs : List AV} (h : tget 9 M a = cO ci fs) (hi : i < fs.length) : runB call j t (op_getf ci i :: l) E n z L (vR a :: S) M = runB call j t l E n z L (nth fs i :: S) M := op_getf_n (call := call) (K := runB call j t l) h hi
theorem rb_stB {f : AV → Bool} {i : Nat} {v : AV} (h1 : f v = true) (h2 : lk2 L i = true) : runB call j t (op_st f i :: l) E n z L (v :: S) M = runB call j t l E n z (nst L i v) S M := by
  show op_st f i call (runB call j t l) E n z L (v :: S) M = _
  rw [stn, h1, h2]
  rfl
end BYH2
noncomputable def f13e : Fct := f8 0 13 0 0
noncomputable def f14e : Fct := f8 0 14 (-1) (-1)
noncomputable def pXe : List Pst := [((0, 0), (0, -2147483648, 2147483647), [fLen, f13e, f14e], [])]
noncomputable def stXe (j : Nat) (f : List Fct) : SPt := ([some (1, 0, 0), none, some (0, (j : Int), (j : Int))], fLen :: f13e :: f14e :: f, [])
noncomputable def chXe1 (j : Nat) : Bool := Bool.rec false (allL relL (fun q => xseg kd0 sh0 rt0 bd0 un0 (inW wX) PR0 MT0 (ctL clX) 6 mdX [(3, [stXe (j + 1) []])] pXe 1000000 3 (stXe j (f8 448 4 ((j : Int) + 1) 30 :: relF j q)))) (xseg kd0 sh0 rt0 bd0 un0 (inW wX) PR0 MT0 CT9 0 mdX [] pXe 1000000 3 (stXe j [f8 448 4 0 j]))
theorem chXe_all : allN 30 chXe1 = true := by decide +kernel
theorem chXe30 : xseg kd0 sh0 rt0 bd0 un0 (inW wX) PR0 MT0 CT9 0 mdX [] pXe 1000000 3 (stXe 30 [f8 448 4 0 30]) = true := by decide +kernel
noncomputable def qX0 : DB := ([(5, 2, 0, 0, 0, 0, 0), (31, 13, 167, 1, 0, 7, 0), (5, 2, 0, 0, 0, 0, 0), (21, 10, 0, 0, 0, 0, 0), (0, 0, 0, 0, 0, 0, 0), (22, 0, 0, 1, 0, 0, 0), (5, 0, 1, 0, 0, 0, 0)], ((2, 2, 1, 2, 0, 0, 0), []))
noncomputable def sXm : SPt := ([some (1, 0, 0), some (0, 1, 1), none], [f8 446 6 0 0, f8 446 7 (-1) (-1)], [])
theorem chXm : xmid kd0 sh0 rt0 bd0 un0 (inW wX) PR0 MT0 (ctL [(27, ct_126)]) 4 mdX [(3, [stXe 0 []])] [] 1000000 qX0 sXm = true := by decide +kernel
def XeP (r : Res) : Prop := r.1 = (0, 0) ∧ rdI r.2.2.2.2.2.1 0 13 = 0 ∧ rdI r.2.2.2.2.2.1 0 14 = -1
theorem exC_st {Ev : Env9} {k' : Nat} (hk : 119 ≤ k') {d : Nat} {ct : TrT Blk d} (hmC : MdC mdX d ct) {M0 : Mem} : StK kd0 sh0 rt0 bd0 (inW wX) Inv0 M0 Ev (runM k') d ct 62000000 3 (SpOK kd0 (stXe 0 [])) XeP := by
  have hP : ∀ r : Res, r.2.1 = Ev → r.2.2.2.2.2.2.1 = 466 → GM kd0 sh0 rt0 bd0 (inW wX) Inv0 M0 r.2.2.2.2.2.1 → (∃ q ∈ pXe, pOK kd0 q r) → XeP r := fun r _ _ _ q => by
    obtain ⟨p, hp, hp2⟩ := q
    obtain rfl := List.mem_singleton.mp hp
    have a := fact_at hp2.2.2.1 (c := 0) (i := 13) (lo := 0) (hi := 0) (List.mem_cons_of_mem _ List.mem_cons_self)
    have b := fact_at hp2.2.2.1 (c := 0) (i := 14) (lo := -1) (hi := -1) (List.mem_cons_of_mem _ (List.mem_cons_of_mem _ List.mem_cons_self))
    exact ⟨hp2.1, Int.le_antisymm a.2 a.1, Int.le_antisymm b.2 b.1⟩
  have hC9 : CS kd0 sh0 rt0 bd0 (inW wX) Inv0 M0 Ev (runM k') (xM kd0 sh0 rt0 bd0 un0 (inW wX) PR0 MT0 CT9 0) := cs9 hang_0 hR9 hMT9 (by omega)
  have hCX : CS kd0 sh0 rt0 bd0 (inW wX) Inv0 M0 Ev (runM k') (xM kd0 sh0 rt0 bd0 un0 (inW wX) PR0 MT0 (ctL clX) 6) := csL hang_0 (ctL_ok (b := 110) (l := clX) (And.intro (CK_up cc_103 (by decide)) (And.intro (CK_up cc_95 (by decide)) (And.intro (CK_up cc_108 (by decide)) (And.intro (CK_up cc_100 (by decide)) trivial))))) (by omega)
  have three : ∀ {l m : List Fct} {M : Mem}, PrFa kd0 [] (fLen :: f13e :: f14e :: l) M → PrFa kd0 [] m M → PrFa kd0 [] (fLen :: f13e :: f14e :: m) M := fun h1 h2 a ha => by
    rcases List.mem_cons.mp ha with z | ha
    · exact h1 a (by rw [z]; exact List.mem_cons_self)
    · rcases List.mem_cons.mp ha with z | ha
      · exact h1 a (by rw [z]; exact List.mem_cons_of_mem _ List.mem_cons_self)
      · rcases List.mem_cons.mp ha with z | ha
        · exact h1 a (by rw [z]; exact List.mem_cons_of_mem _ (List.mem_cons_of_mem _ List.mem_cons_self))
        · exact h2 a ha
  have stop : ∀ j, j ≤ 30 → xseg kd0 sh0 rt0 bd0 un0 (inW wX) PR0 MT0 CT9 0 mdX [] pXe 1000000 3 (stXe j [f8 448 4 0 j]) = true → ∀ f, 1000000 ≤ f → ∀ (L : List AV) (M : Mem), SpOK kd0 (stXe j []) L M → GM kd0 sh0 rt0 bd0 (inW wX) Inv0 M0 M → rdI M 448 4 ≤ (j : Int) → OKo (runF (runM k') d ct f 3 Ev 466 0 L [] M) XeP := by
    intro j hj hx f hf L M hQ hM hc
    have hb := bdAt_ok bCnt hM.1
    exact xseg_ok (C := 1000000) (F := 0) hu0 hang_0 hC9 hmC hx (fun q q1 => by cases q1) hP f hf L M ⟨hQ.1, three hQ.2.1 (prFa_1 (c := 448) (i := 4) (by decide) hb.1 hc), fun q hq => by cases hq⟩ hM
  have key : ∀ m j, j + m = 30 → ∀ f, fu 2000000 2000000 m ≤ f → ∀ (L : List AV) (M : Mem), SpOK kd0 (stXe j []) L M → GM kd0 sh0 rt0 bd0 (inW wX) Inv0 M0 M → OKo (runF (runM k') d ct f 3 Ev 466 0 L [] M) XeP := by
    intro m
    induction m with
    | zero =>
      intro j hj f hf L M hQ hM
      rw [fu_0] at hf
      have e : j = 30 := by omega
      subst e
      exact stop 30 (Nat.le_refl _) chXe30 f (Nat.le_trans (nle rfl) hf) L M hQ hM (bdAt_ok bCnt hM.1).2
    | succ m ih =>
      intro j hj f hf L M hQ hM
      have hj30 : j < 30 := by omega
      have hj31 : j + 1 + m = 30 := by omega
      rw [fu_s] at hf
      have hZ := fu_b 2000000 2000000 m
      generalize fu 2000000 2000000 m = Z at ih hf hZ
      obtain ⟨g1, g2⟩ := band (a := xseg kd0 sh0 rt0 bd0 un0 (inW wX) PR0 MT0 CT9 0 mdX [] pXe 1000000 3 (stXe j [f8 448 4 0 j])) (b := allL relL (fun q => xseg kd0 sh0 rt0 bd0 un0 (inW wX) PR0 MT0 (ctL clX) 6 mdX [(3, [stXe (j + 1) []])] pXe 1000000 3 (stXe j (f8 448 4 ((j : Int) + 1) 30 :: relF j q)))) (allN_ok chXe_all j hj30)
      by_cases hc : rdI M 448 4 ≤ (j : Int)
      · exact stop j (Nat.le_of_lt hj30) g1 f (fue3 hf (nle rfl)) L M hQ hM hc
      · have hb := bdAt_ok bCnt hM.1
        obtain ⟨q, hq, hqf⟩ := relF_of (hM.2.1.2.1.2.1 j hj30 (Int.not_le.mp hc))
        refine xseg_ok (C := 1000000) (F := Z) hu0 hang_0 hCX hmC (allL_ok g2 q hq) (fun w w1 p w2 => ?_) hP f (fue4 hf (nle rfl)) L M ⟨hQ.1, three hQ.2.1 (prFa_app (l := [f8 448 4 ((j : Int) + 1) 30]) (prFa_1 (c := 448) (i := 4) (by decide) (ile1 hc) hb.2) hqf), fun q hq => by cases hq⟩ hM
        obtain rfl := List.mem_singleton.mp w1
        obtain rfl := List.mem_singleton.mp w2
        exact fun f' hf' L' M' h9 h8 => ih (j + 1) hj31 f' hf' L' M' h9 h8
  have hfu : fu 2000000 2000000 30 ≤ 62000000 := Nat.le_of_ble_eq_true (by decide +kernel)
  exact fun f hf L M h9 h8 => key 30 0 (by omega) f (Nat.le_trans hfu hf) L M h9 h8
theorem so446X : ∃ q, sh0 (kd0 446) = .inl q ∧ q.2[6]? = some 0 ∧ q.2[7]? = some 0 := ⟨_, rfl, rfl, rfl⟩
theorem so0X : ∃ q, sh0 (kd0 0) = .inl q ∧ q.1 = 10 ∧ q.2.length = 15 ∧ (∃ f, q.2[12]? = some (f + 2)) ∧ ∃ f, q.2[3]? = some (f + 2) := ⟨_, rfl, rfl, rfl, ⟨_, rfl⟩, ⟨_, rfl⟩⟩
theorem sh448X : ∃ q, sh0 (kd0 448) = .inl q ∧ q.1 = 1 := ⟨_, rfl, rfl⟩
theorem rt12X : rt0 0 12 = 448 ∧ rt0 0 3 = 7 := by decide +kernel
theorem sgm1 : sg 4294967295 = -1 := by decide +kernel
theorem sg_0X : sg 0 = 0 := by decide +kernel
theorem exC_ok {Ev : Env9} {k : Nat} (hk : 120 ≤ k) {M : Mem} (hT : TI kd0 sh0 rt0 bd0 M) (hI : Inv0 M) {n c d : Nat} {T N V : Nat → Nat} (hB : CB (rN M) n T N c V d) (h0 : (oCm T N c V d 30 0).1 = 0) : OKo (runM k 102 Ev 466 [vR 0] M) XeP := by
  obtain ⟨k', rfl⟩ : ∃ k', k = k' + 1 := ⟨k - 1, by omega⟩
  obtain ⟨d9, ct, hmC, hrun⟩ := (show MDOK bo9 102 mdX from mo_X10_executeCommands rfl _)
  obtain ⟨r, e, r1, r2, r3, r4, r5, p, p1, p2⟩ := f_parse (Ev := Ev) k' (by omega) [vR 448, vR 7] M (show asOK kd0 ctP.1 [vR 448, vR 7] from ⟨⟨rfl, by decide⟩, ⟨rfl, by decide⟩, trivial⟩) (fun a ha => by cases ha) (fun a ha => by cases ha) hT hI
  obtain ⟨g, hv, hg⟩ := (v_cparse (D := 0) hB).1 h0
  obtain ⟨v', S', L', M1, z', e', hv', -, hf⟩ := vM_ok (E := Ev) 7 k' (by omega) 7 [vR 448, vR 7] (rN M) M ((0, 0), vI 1, g) (wl_k (v := vR 448) trivial (wl_k (v := vR 7) trivial vwl_0)) (TS_of hT) (fun _ _ _ => rfl) hv
  have e2 : some [r] = some [((0, 0), Ev, v', S', L', M1, 466, z')] := e.symm.trans e'
  injection e2 with e3
  injection e3 with e4
  subst e4
  have hv1 : v' = vI 1 := (hv' rfl).1
  subst hv1
  obtain ⟨q, q0, q6, q7⟩ := so446X
  have n6 := rn_obj (M := M1) r3 (show 446 < 466 by decide) q0 q6
  have n7 := rn_obj (M := M1) r3 (show 446 < 466 by decide) q0 q7
  have v6 : rdI M1 446 6 = 0 := by
    rw [n6.1, show rN M1 446 6 = 0 from (hf 446 (by decide) 6).trans hg.2.1]
    exact sg_0X
  have v7 : rdI M1 446 7 = -1 := by
    rw [n7.1, show rN M1 446 7 = 4294967295 from (hf 446 (by decide) 7).trans hg.2.2]
    exact sgm1
  have hb : tget d9 ct 0 = (op_ld (fP 2) 0 :: op_getf 10 12 :: op_ld (fP 2) 0 :: op_getf 10 3 :: op_call (gN 4) 7 2 0 7 :: op_st (fP 0) 1 :: dnL 0 qX0.1, dtm 0 qX0.2) := hmC 0 _ rfl
  have er : runM (k' + 1) 102 Ev 466 [vR 0] M = runF (runM k') d9 ct 1000000000000 0 Ev 466 0 [vR 0, vW 3, vW 3] [] M := (hR9 k' 102 Ev 466 [vR 0] M).trans ((hrun (runM k') Ev 466 [vR 0] M).trans rfl)
  obtain ⟨o, o1, o2, o3, ⟨f12, o12⟩, f3, o4⟩ := so0X
  obtain ⟨fs, c1, c2, c3⟩ := co_obj hT (show 0 < 466 by decide) o1
  have d12 : nth fs 12 = vR 448 := by
    have w := (c3 12 _ o12).1
    rw [rt12X.1] at w
    exact w
  have d3 : nth fs 3 = vR 7 := by
    have w := (c3 3 _ o4).1
    rw [rt12X.2] at w
    exact w
  rw [o2] at c1
  obtain ⟨f, ef, hf1⟩ : ∃ f, 1000000000000 = f + 1 ∧ 1000000 + 62000000 ≤ f := ⟨999999999999, rfl, by decide⟩
  have mid := xmid_ok (C := 1000000) (F := 62000000) hu0 hang_0 (csL (b := 110) (l := [(27, ct_126)]) (Wp := inW wX) (M0 := M1) (D := 4) (k := k') (Ev := Ev) hang_0 (ctL_ok (And.intro (CK_up cc_126 (by decide)) trivial)) (by omega)) hmC chXm (fun q q1 p q2 => by
    obtain rfl := List.mem_singleton.mp q1
    obtain rfl := List.mem_singleton.mp q2
    exact exC_st (by omega) hmC) (P := XeP) (fun r _ _ _ q => by obtain ⟨p, hp, -⟩ := q; cases hp) f hf1 [vR 0, vI 1, vW 3] M1 ⟨⟨⟨rfl, by decide⟩, ⟨1, rfl, by decide, by decide +kernel, by decide +kernel⟩, rfl, trivial⟩, prFa_app (l := [f8 446 6 0 0]) (prFa_1 (c := 446) (i := 6) (by decide) (by rw [v6]; decide) (by rw [v6]; decide)) (prFa_1 (c := 446) (i := 7) (by decide) (by rw [v7]; decide) (by rw [v7]; decide)), fun q hq => by cases hq⟩ ⟨r3, r4, fun _ _ _ _ => rfl⟩
  rw [er, ef, rF9 f hb]
  refine okEq ?_ mid
  refine (rb_ld rfl).trans ?_
  refine (rb_getfB c1 (by rw [c2, o3]; decide)).trans ?_
  rw [d12]
  refine (rb_ld rfl).trans ?_
  refine (rb_getfB c1 (by rw [c2, o3]; decide)).trans ?_
  rw [d3]
  refine (rb_callB (as := [vR 448, vR 7]) (rest := []) rfl rfl rfl (by decide) (gv_of hT (by decide) sh448X) e).trans ?_
  exact (rb_stB rfl rfl).trans rfl
