section
/-! load -/
noncomputable def wLd : Wrg := (13, 5, 6) :: (13, 16, 23) :: (wRow 31 0 ++ wRow 33 0)
noncomputable def wL3 : Wrg := [(13, 17, 21), (31, 3, 4), (31, 11, 22)]
noncomputable def wL5 : Wrg := [(13, 6, 6), (13, 16, 23)]
noncomputable def ctLoad : Ctr := ([(1, 452, 0)], gdR 453 0, [], wLd, [anyI (fM 16 0 0 :: gdR 453 0)])
noncomputable def sL1 : SPt := ([some (1, 452, 0), some (0, 0, 0)], gdR 455 0, [])
noncomputable def sL3 : SPt := ([some (1, 452, 0), some (0, 627, 627)], [], [])
noncomputable def sL5 : SPt := s7 [fM 17 0 900, fM 20 0 0, k31 3 1 30, k31 4 1 12]
noncomputable def sLe : SPt := s7 [fM 17 0 901, fM 20 1 4]
noncomputable def sL10 : SPt := s7 [fM 20 0 0, k31 3 1 30, k31 4 1 12, k31 0 1 12, k31 1 1 8]
noncomputable def clL : List (Nat × Ctr) := (247, ctFg) :: tl_start
theorem cq_453_455 : cpChk 453 0 455 0 := ⟨627, 627, by decide +kernel, by decide +kernel, by decide, by decide, by decide +kernel⟩
theorem cq_455_453 : cpChk 455 0 453 0 := ⟨627, 627, by decide +kernel, by decide +kernel, by decide, by decide, by decide +kernel⟩
theorem chL0 : xseg kd0 sh0 rt0 bd0 un0 (inW (wRow 33 0)) PR0 MT0 (ctL [(178, ctCp 453 0 455 0)]) 0 mdLd [(1, [sL1])] [] 1000000 0 (spI 2 ctLoad.1, gdR 453 0, []) = true := by decide +kernel
theorem chL3 : xseg kd0 sh0 rt0 bd0 un0 (inW wL3) PR0 MT0 (ctL clL) 12 mdLd [(5, [sL5, sLe])] [] 1000000 1 sL3 = true := by decide +kernel
theorem chL5 : xseg kd0 sh0 rt0 bd0 un0 (inW [(13, 17, 19)]) PRA MT0 (ctL [(229, ctNx)]) 4 mdLd [(9, [sL5]), (10, [sL10])] [] 1000000 5 sL5 = true := by decide +kernel
theorem chL5e : xseg kd0 sh0 rt0 bd0 un0 (inW wL5) PR0 MT0 CT9 6 mdLd [(11, [s7 [fM 16 0 0]])] [] 1000000 5 sLe = true := by decide +kernel
theorem chL10 : xseg kd0 sh0 rt0 bd0 un0 (inW wL5) PR0 MT0 CT9 6 mdLd [(12, [s7 (fM 16 0 0 :: gdR 453 0)])] [] 1000000 10 sL10 = true := by decide +kernel
theorem chL11 : xseg kd0 sh0 rt0 bd0 un0 (inW (wRow 31 0)) PR0 MT0 (ctL [(178, ctCp 455 0 453 0)]) 0 mdLd [] [anyI (fM 16 0 0 :: gdR 453 0)] 1000000 11 (s7 (fM 16 0 0 :: gdR 455 0)) = true := by decide +kernel
theorem chL12 : xseg kd0 sh0 rt0 bd0 un0 (inW [(13, 5, 5)]) PRK MT0 CT9 0 mdLd [] [anyI (fM 5 0 0 :: fM 16 0 0 :: gdR 453 0)] 1000000 12 (s7 (fM 16 0 0 :: gdR 453 0)) = true := by decide +kernel
theorem wl_0 : ywsub (inW wLd) (wRow 33 0) = true := by decide +kernel
theorem wl_3 : ywsub (inW wLd) wL3 = true := by decide +kernel
theorem wl_5 : ywsub (inW wLd) wL5 = true := by decide +kernel
theorem wl_n : ywsub (inW wLd) [(13, 17, 19)] = true := by decide +kernel
theorem wl_s : ywsub (inW wLd) wSt = true := by decide +kernel
theorem wl_r : ywsub (inW wLd) (wRow 31 0) = true := by decide +kernel
theorem wl_p : ywsub (inW wLd) [(13, 5, 5)] = true := by decide +kernel
theorem n33_3 : ∀ a ∈ wL3, a.1 ≠ 33 := by decide
theorem n33_5 : ∀ a ∈ wL5, a.1 ≠ 33 := by decide
theorem n33_n : ∀ a ∈ ([(13, 17, 19)] : Wrg), a.1 ≠ 33 := by decide
theorem n33_s : allL wSt (fun a => snot (Nat.beq a.1 33)) = true := by decide +kernel
theorem kv_3 : inW wSt 31 ((3 : Nat) : Int) = false := by decide +kernel
theorem kv_4 : inW wSt 31 ((4 : Nat) : Int) = false := by decide +kernel
theorem calln {call : Call} {Ev : Env9} {y : Nat} {K : KK} {L : List AV} {M : Mem} {fs : List AV} (hO : tget 9 M 452 = cO 11 fs) {r : Res} (he : call y Ev 466 [vR 452] M = some [r]) (h1 : r.1 = (1, 0)) (h2 : r.2.1 = Ev) (h3 : r.2.2.2.2.2.2.1 = 466) : op_call (gV 11) y 1 0 0 call K Ev 466 0 L [vR 452] M = K Ev 466 0 L [] r.2.2.2.2.2.1 := by
  have hg : gV 11 [vR 452] M = true := by
    show (match tget 9 M 452 with | .inl q => Nat.beq q.1 11 | _ => false) = true
    rw [hO]; rfl
  obtain ⟨⟨a, b⟩, E', v, x, z, M', n', w⟩ := r
  cases h1
  have h2 : E' = Ev := h2
  have h3 : n' = 466 := h3
  subst h2
  subst h3
  have e : op_call (gV 11) y 1 0 0 call K E' 466 0 L [vR 452] M = gd true (gd true (gd true (gd (gV 11 [vR 452] M) (match call y E' 466 [vR 452] M with
    | some rs => joinR (fun r => match r with
      | ((0, _), E', v, _, _, M', n', _) => fN n' fun n' => K E' n' 0 L (v :: []) M'
      | ((1, _), E', _, _, _, M', n', _) => fN n' fun n' => K E' n' 0 L [] M'
      | _ => none) rs
    | none => none)))) := rfl
  rw [e, hg, he, gd4 joinR_1]
  show fN 466 (fun n' => K E' n' 0 L [] M') = _
  rw [fN_eq]
theorem lok2 {L : List AV} (h : lOK kd0 [some (1, 452, 0), none] L) : ∃ y, L = [vR 452, y] ∧ isC2 y = false := by
  cases L with
  | nil => exact h.elim
  | cons x L =>
    cases L with
    | nil => exact h.2.elim
    | cons y L =>
      cases L with
      | nil => exact ⟨y, by rw [show x = vR 452 from h.1.1], h.2.1⟩
      | cons z L => exact h.2.2.elim
theorem lok2i {n : Nat} (hn : n ≤ 100000) {L : List AV} (h : lOK kd0 [some (1, 452, 0), some (0, (n : Int), (n : Int))] L) : L = [vR 452, vI n] := by
  cases L with
  | nil => exact h.elim
  | cons x L =>
    cases L with
    | nil => exact h.2.elim
    | cons y L =>
      cases L with
      | nil =>
        obtain ⟨x1, e1, e2, e3, e4⟩ := h.2.1
        rw [show x = vR 452 from h.1.1, e1, sg_is hn e2 e3 e4]
      | cons z L => exact h.2.2.elim
theorem ld_f2 : isObjF 452 11 0 (31 + 2) = true := ld_f
theorem ld_b9 {d : Nat} {ct : TrT Blk d} (h : MdC mdLd d ct) : tget d ct 9 = ([op_ld isA 0, op_call (gV 11) 251 1 0 0], tm_goto 5) := h 9 _ rfl
noncomputable def muL (M : Mem) : Int := 1000 * (20 - rdI M 453 0 - rdI M 453 1) + (901 - rdI M 452 17)
theorem mu1 {k v a k1 v1 a1 : Int} {n : Nat} (h : 1000 * (20 - k - v) + (901 - a) ≤ ((n + 1 : Nat) : Int)) (ha : a ≤ 900) (ha1 : 0 ≤ a1) (he : k1 + v1 = k + v + 1) : 1000 * (20 - k1 - v1) + (901 - a1) ≤ (n : Int) := by omega
theorem mu2 {k v a k1 v1 a1 b : Int} {n : Nat} (h : 1000 * (20 - k - v) + (901 - a) ≤ ((n + 1 : Nat) : Int)) (hk : k1 = k) (hv : v1 = v) (hb : a ≤ b) (ha1 : b + 1 ≤ a1) : 1000 * (20 - k1 - v1) + (901 - a1) ≤ (n : Int) := by omega
theorem fu_e (a b n : Nat) : fu a b n = b + n * a := by
  induction n with
  | zero => rw [fu_0, Nat.zero_mul, Nat.add_zero]
  | succ n ih => rw [fu_s, ih, Nat.succ_mul, Nat.add_assoc]
theorem ex1 {Z f : Nat} (h : Z + 1 ≤ f) : ∃ g, f = g + 1 ∧ Z ≤ g := ⟨f - 1, by omega, by omega⟩
theorem eqd {a b c d : Int} {e f : Int} (h1 : e = a) (h2 : f = b) : e + f = a + b := by rw [h1, h2]
theorem load_ok {Ev : Env9} (h0 : CK Ev 40 (240, ct_249)) (h1 : CK Ev 40 (240, ct_257)) (he : ∀ y, ∀ ct ∈ ctL tl_echo y, ∀ k, 40 ≤ k → CtrOK kd0 sh0 rt0 bd0 Inv0 Ev (runM k) y ct) (hv : ∀ y, ∀ ct ∈ ctL tl_valley y, ∀ k, 40 ≤ k → CtrOK kd0 sh0 rt0 bd0 Inv0 Ev (runM k) y ct) (hn : CK Ev 40 (229, ct_156)) (hst : ∀ y, ∀ ct ∈ ctL tl_start y, ∀ k, 40 ≤ k → CtrOK kd0 sh0 rt0 bd0 Inv0 Ev (runM k) y ct) (hfg : CK Ev 60 (247, ctFg)) : CK Ev 100 (252, ctLoad) := by
  intro k hk
  obtain ⟨k', rfl⟩ : ∃ k', k = k' + 1 := ⟨k - 1, by omega⟩
  have hk99 : 99 ≤ k' := by omega
  refine ctr_st hR9 (md := mdLd) mdLd_ok (Nat.le_of_ble_eq_true rfl) (fun d ct hmC M0 _ _ f hf L M hQ hM => ?_)
  have n6 : 6 ≤ k' := Nat.le_trans (nle rfl) hk99
  have hC9 : ∀ {Wp PR : Nat → Int → Bool} {Inv : Mem → Prop} {M : Mem} (D : Nat), Hang kd0 PR Inv → D ≤ 6 → CS kd0 sh0 rt0 bd0 Wp Inv M Ev (runM k') (xM kd0 sh0 rt0 bd0 un0 Wp PR MT0 CT9 D) := fun D hI hD => cs9 hI hR9 hMT9 (Nat.le_trans hD n6)
  have hss := ywsub_ok (Wp := inW wLd) wl_s
  -- the ends
  have end12 : ∀ f, 1000000 ≤ f → ∀ (L : List AV) (M : Mem), SpOK kd0 (s7 (fM 16 0 0 :: gdR 453 0)) L M → TI kd0 sh0 rt0 bd0 M → Inv0 M → Fr kd0 (inW wLd) M0 M → OKo (runF (runM k') d ct f 12 Ev 466 0 L [] M) (EnP kd0 sh0 rt0 bd0 Inv0 Ev ctLoad M0) := by
    intro f hf L M hQ hT hI hFr
    refine seg1 (C := 1000000) (F := 0) hu0 hang_K (hC9 0 hang_K (by decide)) hmC chL12 hf hQ hT (⟨hI.1, hI.2.1, fun i h1 _ => absurd h1 (Nat.not_lt_zero i)⟩ : InvK 0 M) (fun q q1 => by cases q1) (fun r r1 r2 r3 q => ?_)
    obtain ⟨w, hw, hw1⟩ := q
    obtain rfl := List.mem_singleton.mp hw
    have g4 := fact_at hw1.2.2.1 (c := 452) (i := 5) (lo := 0) (hi := 0) List.mem_cons_self
    exact ⟨r1, r2, r3.1, InvK_0 (m := 0) g4.2 r3.2.1, fr_tr hFr r3.2.2 (ywsub_ok (Wp := inW wLd) wl_p), _, List.mem_singleton.mpr rfl, anyI_ok hw1 (prFa_r (l := [fM 5 0 0]) hw1.2.2.1)⟩
  have end11 : ∀ f, 1000000 ≤ f → ∀ (L : List AV) (M : Mem), SpOK kd0 (s7 [fM 16 0 0]) L M → TI kd0 sh0 rt0 bd0 M → Inv0 M → Fr kd0 (inW wLd) M0 M → GoodR M 455 0 → OKo (runF (runM k') d ct f 11 Ev 466 0 L [] M) (EnP kd0 sh0 rt0 bd0 Inv0 Ev ctLoad M0) := by
    intro f hf L M hQ hT hI hFr hg
    have hC : CS kd0 sh0 rt0 bd0 (inW (wRow 31 0)) Inv0 M Ev (runM k') (xM kd0 sh0 rt0 bd0 un0 (inW (wRow 31 0)) PR0 MT0 (ctL [(178, ctCp 455 0 453 0)]) 0) := cs1 (b := 1) hang_0 (cp_any (by decide) (by decide) ku_453 (Or.inl (by decide)) cq_455_453 (fun M1 M2 _ g1 g2 => Inv0_cp (by decide) (by decide) g2 ⟨by decide, by decide⟩ (by decide) (by decide) g1)) (Nat.le_trans (nle rfl) hk99)
    refine seg1 (C := 1000000) (F := 0) hu0 hang_0 hC hmC chL11 hf ⟨hQ.1, prFa_app (l := [fM 16 0 0]) hQ.2.1 (of_good (by decide) hg), fun q hq => by cases hq⟩ hT hI (fun q q1 => by cases q1) (fun r r1 r2 r3 q => ?_)
    exact ⟨r1, r2, r3.1, r3.2.1, fr_tr hFr r3.2.2 (ywsub_ok (Wp := inW wLd) wl_r), q⟩
  have err5 : ∀ f, 2000000 ≤ f → ∀ (L : List AV) (M : Mem), SpOK kd0 sLe L M → TI kd0 sh0 rt0 bd0 M → Inv0 M → Fr kd0 (inW wLd) M0 M → GoodR M 455 0 → OKo (runF (runM k') d ct f 5 Ev 466 0 L [] M) (EnP kd0 sh0 rt0 bd0 Inv0 Ev ctLoad M0) := by
    intro f hf L M hQ hT hI hFr hg
    refine seg1 (posts := []) (C := 1000000) (F := 1000000) hu0 hang_0 (hC9 6 hang_0 (by decide)) hmC chL5e hf hQ hT hI (fun w w1 p w2 f' w3 L' M' w4 w5 => ?_) (fun r _ _ _ q => by obtain ⟨p, hp, _⟩ := q; cases hp)
    obtain rfl := List.mem_singleton.mp w1
    obtain rfl := List.mem_singleton.mp w2
    exact end11 f' w3 L' M' w4 w5.1 w5.2.1 (fr_tr hFr w5.2.2 (ywsub_ok (Wp := inW wLd) wl_5)) (good_455 n33_5 w5.2.2 hg)
  have end10 : ∀ f, 2000000 ≤ f → ∀ (L : List AV) (M : Mem), SpOK kd0 sL10 L M → TI kd0 sh0 rt0 bd0 M → Inv0 M → Fr kd0 (inW wLd) M0 M → OKo (runF (runM k') d ct f 10 Ev 466 0 L [] M) (EnP kd0 sh0 rt0 bd0 Inv0 Ev ctLoad M0) := by
    intro f hf L M hQ hT hI hFr
    refine seg1 (posts := []) (C := 1000000) (F := 1000000) hu0 hang_0 (hC9 6 hang_0 (by decide)) hmC chL10 hf hQ hT hI (fun w w1 p w2 f' w3 L' M' w4 w5 => ?_) (fun r _ _ _ q => by obtain ⟨p, hp, _⟩ := q; cases hp)
    obtain rfl := List.mem_singleton.mp w1
    obtain rfl := List.mem_singleton.mp w2
    exact end12 f' w3 L' M' w4 w5.1 w5.2.1 (fr_tr hFr w5.2.2 (ywsub_ok (Wp := inW wLd) wl_5))
  -- the lines
  have loop5 : ∀ (n : Nat) f, fu 3000000 3000000 n ≤ f → ∀ (L : List AV) (M : Mem), SpOK kd0 sL5 L M → TI kd0 sh0 rt0 bd0 M → Inv0 M → Fr kd0 (inW wLd) M0 M → GoodR M 455 0 → muL M ≤ (n : Int) → OKo (runF (runM k') d ct f 5 Ev 466 0 L [] M) (EnP kd0 sh0 rt0 bd0 Inv0 Ev ctLoad M0) := by
    intro n
    induction n with
    | zero =>
      intro f hf L M hQ hT hI hFr hg hn
      have a1 := fact_at hQ.2.1 (c := 452) (i := 17) (lo := 0) (hi := 900) List.mem_cons_self
      have a2 := bdAt_ok bK12 hT
      have a3 := bdAt_ok bV8 hT
      unfold muL at hn
      omega
    | succ n ih =>
      intro f hf L M hQ hT hI hFr hg hn0
      rw [fu_s] at hf
      have hZ := fu_b 3000000 3000000 n
      generalize fu 3000000 3000000 n = Z at ih hf hZ
      have a1 := fact_at hQ.2.1 (c := 452) (i := 17) (lo := 0) (hi := 900) List.mem_cons_self
      refine seg1 (posts := []) (C := 1000000) (F := Z + 1) hu0 hang_A (cs1 (b := 8) hang_A next_A (Nat.le_trans (nle rfl) hk99)) hmC chL5 (by omega) hQ hT (⟨hI, Int.le_refl _⟩ : InvA (rdI M 452 17) M) (fun w w1 p w2 f' w3 L' M' w4 w5 => ?_) (fun r _ _ _ q => by obtain ⟨p, hp, _⟩ := q; cases hp)
      have hFr' := fr_tr hFr w5.2.2 (ywsub_ok (Wp := inW wLd) wl_n)
      have hg' := good_455 n33_n w5.2.2 hg
      have eK := fr_s kv_c w5.2.2
      have eV := fr_s kv_d w5.2.2
      rcases List.mem_cons.mp w1 with z | w1
      · subst z
        obtain rfl := List.mem_singleton.mp w2
        obtain ⟨g, rfl, hg1⟩ := ex1 w3
        obtain ⟨y, rfl, _⟩ := lok2 w4.1
        obtain ⟨fs, o1, _, _⟩ := ref_of w5.1 (by decide) ld_f
        obtain ⟨r, x1, x2, x3, x4, x5, x6, x7, x8⟩ := stmt_ok h0 h1 he hv hn (k := k') (Nat.le_trans (nle rfl) hk99) w5.1 w5.2.1.1 (fun a ha => w4.2.1 a (by
          rcases List.mem_cons.mp ha with e | ha
          · rw [e]; exact List.mem_cons_self
          · rw [List.mem_singleton.mp ha]; exact List.mem_cons_of_mem _ List.mem_cons_self))
        rw [rF9 g (ld_b9 hmC), rBc, rBc, rBn, ldn, show nth [vR 452, y] 0 = vR 452 from rfl, isAv, gdt, calln o1 x1 x2 x3 x4, gotn]
        have hFs := fr_tr hFr' x7 hss
        have hgs := good_455 (fun a ha e => by
          have := allL_ok n33_s a ha
          rw [e] at this
          cases this) x7 hg'
        have hz2 : 2000000 ≤ g := Nat.le_trans (nle rfl) (Nat.le_trans hZ hg1)
        have b1 := fact_at w4.2.1 (c := 452) (i := 17) (lo := 0) (hi := 900) List.mem_cons_self
        rcases x8 with x8 | ⟨x8, x9⟩
        · exact err5 g hz2 _ _ ⟨w4.1, x8, fun q hq => by cases hq⟩ x5 x6 hFs hgs
        · have c3 := fact_at w4.2.1 (c := 453) (i := 3) (lo := 1) (hi := 30) (List.mem_cons_of_mem _ (List.mem_cons_of_mem _ List.mem_cons_self))
          have c4 := fact_at w4.2.1 (c := 453) (i := 4) (lo := 1) (hi := 12) (List.mem_cons_of_mem _ (List.mem_cons_of_mem _ (List.mem_cons_of_mem _ List.mem_cons_self)))
          have d3 := fr_s kv_3 x7
          have d4 := fr_s kv_4 x7
          have d1 := fact_at x8 (c := 452) (i := 17) (lo := 0) (hi := 900) List.mem_cons_self
          refine ih g hg1 _ _ ⟨w4.1, prFa_app (l := [fM 17 0 900, fM 20 0 0]) x8 (prFa_app (l := [k31 3 1 30]) (prFa_1 (c := 453) (i := 3) (by decide) (by rw [d3]; exact c3.1) (by rw [d3]; exact c3.2)) (prFa_1 (c := 453) (i := 4) (by decide) (by rw [d4]; exact c4.1) (by rw [d4]; exact c4.2))), fun q hq => by cases hq⟩ x5 x6 hFs hgs ?_
          rcases x9 with x9 | ⟨x9, x10, x11⟩
          · exact mu1 hn0 a1.2 d1.1 (x9.trans (by rw [eK, eV]))
          · exact mu2 hn0 (x9.trans eK) (x10.trans eV) w5.2.1.2 x11
      · obtain rfl := List.mem_singleton.mp w1
        obtain rfl := List.mem_singleton.mp w2
        exact end10 f' (Nat.le_trans (Nat.le_trans (nle rfl) hZ) (Nat.le_trans (Nat.le_succ _) w3)) L' M' w4 w5.1 w5.2.1.1 hFr'
  -- the start
  refine seg1 (posts := []) (C := 1000000) (F := 500000000000) hu0 hang_0 (cs1 (b := 1) hang_0 (cp_any (by decide) (by decide) ku_455 (Or.inl (by decide)) cq_453_455 (fun M1 M2 _ g1 g2 => Inv0_cp (by decide) (by decide) g2 ⟨by decide, by decide⟩ (by decide) (by decide) g1)) (Nat.le_trans (nle rfl) hk99)) hmC chL0 (Nat.le_trans (nle rfl) hf) hQ hM.1 hM.2.1 (fun w w1 p w2 f' w3 L' M' w4 w5 => ?_) (fun r _ _ _ q => by obtain ⟨p, hp, _⟩ := q; cases hp)
  obtain rfl := List.mem_singleton.mp w1
  obtain rfl := List.mem_singleton.mp w2
  have hFr' := fr_tr hM.2.2 w5.2.2 (ywsub_ok (Wp := inW wLd) wl_0)
  have hg := good_of w4.2.1
  have eL : L' = [vR 452, vI 0] := lok2i (n := 0) (by decide) w4.1
  subst eL
  refine ld_loop (M := M') hmC (F := 400000000000) (fun f1 hf1 M1 g2 g3 => ?_) 627 0 f' M' (by decide) (Nat.le_trans (nle rfl) w3) ⟨fun j hj => absurd hj (Nat.not_lt_zero j), fun _ _ _ _ => rfl⟩ w5.1
  have hI1 := inv_zr g2 w5.2.1
  have hg1 : GoodR M1 455 0 := GoodR_eq (k := 455) (o := 0) (fun j _ => g2.2 455 (by decide) _ (Or.inl (by decide))) hg
  have hFz : Fr kd0 (inW wLd) M0 M1 := fun j hj i hi => by
    by_cases e : j = 453
    · subst e
      rw [kd_s] at hi
      have e6 : 627 ≤ i := by
        refine Nat.le_of_not_lt (fun h6 => ?_)
        have := ywsub_ok (Wp := inW wLd) wl_r 31 ((0 + i : Nat) : Int) (wRow_in h6)
        rw [Nat.zero_add, hi] at this
        cases this
      rw [g2.2 453 hj i (Or.inr e6)]
      exact hFr' 453 hj i (by rw [kd_s]; exact hi)
    · rw [g2.2 j hj i (Or.inl e)]
      exact hFr' j hj i hi
  have hL3 : lOK kd0 sL3.1 [vR 452, vI 627] := ⟨⟨rfl, by decide⟩, ⟨627, rfl, by decide, by rw [sg_eq (show 627 ≤ 2147483647 by decide)]; exact Int.le_refl _, by rw [sg_eq (show 627 ≤ 2147483647 by decide)]; exact Int.le_refl _⟩, trivial⟩
  have hclL : ∀ y, ∀ ct ∈ ctL clL y, ∀ k, 60 ≤ k → CtrOK kd0 sh0 rt0 bd0 Inv0 Ev (runM k) y ct := by
    intro y ct hm k hk
    have hm : ct ∈ (Bool.rec (ctL tl_start y) (ctFg :: ctL tl_start y) (Nat.beq 247 y) : List Ctr) := hm
    cases hb : Nat.beq 247 y with
    | false => rw [hb] at hm; exact hst y ct hm k (Nat.le_trans (nle rfl) hk)
    | true =>
      rw [hb] at hm
      rcases List.mem_cons.mp hm with e | e
      · rw [e, ← Nat.eq_of_beq_eq_true hb]; exact hfg k hk
      · exact hst y ct e k (Nat.le_trans (nle rfl) hk)
  refine seg1 (posts := []) (C := 1000000) (F := 300000000000) hu0 hang_0 (csL (b := 60) (l := clL) hang_0 hclL (Nat.le_trans (nle rfl) hk99)) hmC chL3 (Nat.le_trans (nle rfl) hf1) ⟨hL3, (fun q hq => by cases hq), (fun q hq => by cases hq)⟩ g3 hI1 (fun w w1 p w2 f2 w3 L2 M2 w4 w5 => ?_) (fun r _ _ _ q => by obtain ⟨p, hp, _⟩ := q; cases hp)
  obtain rfl := List.mem_singleton.mp w1
  have hF2 := fr_tr hFz w5.2.2 (ywsub_ok (Wp := inW wLd) wl_3)
  have hg2 := good_455 n33_3 w5.2.2 hg1
  rcases List.mem_cons.mp w2 with z | w2
  · subst z
    have a1 := fact_at w4.2.1 (c := 452) (i := 17) (lo := 0) (hi := 900) List.mem_cons_self
    have a2 := bdAt_ok bK12 w5.1
    have a3 := bdAt_ok bV8 w5.1
    have hfu : fu 3000000 3000000 20901 ≤ f2 := by rw [fu_e]; exact Nat.le_trans (nle rfl) w3
    exact loop5 20901 f2 hfu L2 M2 w4 w5.1 w5.2.1 hF2 hg2 (by unfold muL; omega)
  · obtain rfl := List.mem_singleton.mp w2
    exact err5 f2 (Nat.le_trans (nle rfl) w3) L2 M2 w4 w5.1 w5.2.1 hF2 hg2
end
section
/-! the chain of contracts with nothing left open -/
theorem h1_175 : xctr kd0 sh0 rt0 bd0 un0 PR0 MT0 (ctL [(193, ct_174)]) 3 md_175 ct_175 = true := by decide +kernel
theorem f_175 {Ev : Env9} : CK Ev 13 (194, ct_175) := xctr_ok hu0 hang_0 hR9 hMT9 (b := 9) (ctL_ok (l := [(193, ct_174)]) (And.intro (CK_up cc_174 (by decide)) trivial)) (mo_X11_seen rfl _) h1_175
theorem h1_178 : xctr kd0 sh0 rt0 bd0 un0 PR0 MT0 (ctL [(194, ct_175)]) 6 md_178 ct_178 = true := by decide +kernel
theorem f_178 {Ev : Env9} : CK Ev 20 (196, ct_178) := xctr_ok hu0 hang_0 hR9 hMT9 (b := 13) (ctL_ok (l := [(194, ct_175)]) (And.intro (CK_up f_175 (by decide)) trivial)) (mo_X11_isAcceptable rfl _) h1_178
theorem h2_276 : xctr kd0 sh0 rt0 bd0 un0 PR0 MT0 (ctL [(198, ct_182)]) 2 md_276 ct_276 = true := by decide +kernel
theorem f_276 {Ev : Env9} : CK Ev 30 (204, ct_276) := xctr_ok hu0 hang_0 hR9 hMT9 (b := 27) (ctL_ok (l := [(198, ct_182)]) (And.intro (CK_up cc_182 (by decide)) trivial)) (mo_X11_leastKept rfl _) h2_276
theorem f_190 {Ev : Env9} : CK Ev 60 (208, ct_190) := hh_190 f_178 (CK_up cc_179 (by decide)) f_276 (CK_up cc_182 (by decide))
theorem f_194 {Ev : Env9} : CK Ev 80 (209, ct_194) := hh_194 f_190
theorem f_192 {Ev : Env9} : CK Ev 69 (296, ct_192) := cc_192 f_190
theorem f_198 {Ev : Env9} : CK Ev 89 (213, ct_198) := cc_198 f_194 hh_197
theorem f_199 {Ev : Env9} : CK Ev 98 (214, ct_199) := cc_199 f_194 hh_197
theorem f_200 {Ev : Env9} : CK Ev 107 (298, ct_200) := cc_200 f_194 hh_197
theorem f_201 {Ev : Env9} : CK Ev 107 (299, ct_201) := cc_201 f_194 hh_197
theorem f_202 {Ev : Env9} : CK Ev 98 (300, ct_202) := cc_202 f_194 hh_197
theorem f_203 {Ev : Env9} : CK Ev 69 (301, ct_203) := cc_203 f_190
theorem f_225 {Ev : Env9} : CK Ev 107 (321, ct_225) := cc_225 f_194 hh_197 hh_224
theorem f_226 {Ev : Env9} : CK Ev 69 (322, ct_226) := cc_226 f_190 hh_224
theorem f_227 {Ev : Env9} : CK Ev 69 (323, ct_227) := cc_227 hh_224
theorem f_229 {Ev : Env9} : CK Ev 69 (324, ct_229) := cc_229 hh_224 hh_228
theorem f_230 {Ev : Env9} : CK Ev 69 (325, ct_230) := cc_230 hh_224
theorem f_231 {Ev : Env9} : CK Ev 69 (326, ct_231) := cc_231 hh_224
theorem f_232 {Ev : Env9} : CK Ev 69 (327, ct_232) := cc_232 hh_224
theorem tl_fog_ok {Ev : Env9} : ∀ y, ∀ ct ∈ ctL tl_fog y, ∀ k, 40 ≤ k → CtrOK kd0 sh0 rt0 bd0 Inv0 Ev (runM k) y ct := ctL_ok (b := 40) (l := tl_fog) (And.intro (CK_up cc_238 (by decide)) (And.intro (CK_up cc_239 (by decide)) (And.intro (CK_up cc_240 (by decide)) (And.intro (CK_up cc_243 (by decide)) (And.intro (CK_up cc_246 (by decide)) trivial)))))
theorem tl_echo_ok {Ev : Env9} : ∀ y, ∀ ct ∈ ctL tl_echo y, ∀ k, 40 ≤ k → CtrOK kd0 sh0 rt0 bd0 Inv0 Ev (runM k) y ct := ctL_ok (b := 40) (l := tl_echo) (And.intro (CK_up cc_156 (by decide)) (And.intro (CK_up cc_239 (by decide)) (And.intro (CK_up cc_240 (by decide)) (And.intro (CK_up cc_249 (by decide)) (And.intro (CK_up cc_250 (by decide)) (And.intro (CK_up cc_251 (by decide)) (And.intro (CK_up cc_253 (by decide)) (And.intro (CK_up cc_254 (by decide)) trivial))))))))
theorem tl_valley_ok {Ev : Env9} : ∀ y, ∀ ct ∈ ctL tl_valley y, ∀ k, 40 ≤ k → CtrOK kd0 sh0 rt0 bd0 Inv0 Ev (runM k) y ct := ctL_ok (b := 40) (l := tl_valley) (And.intro (CK_up cc_156 (by decide)) (And.intro (CK_up cc_250 (by decide)) (And.intro (CK_up cc_251 (by decide)) (And.intro (CK_up cc_253 (by decide)) (And.intro (CK_up cc_254 (by decide)) (And.intro (CK_up cc_257 (by decide)) (And.intro (CK_up cc_258 (by decide)) (And.intro (CK_up cc_259 (by decide)) (And.intro (CK_up cc_261 (by decide)) (And.intro (CK_up cc_262 (by decide)) trivial))))))))))
theorem tl_start_ok {Ev : Env9} : ∀ y, ∀ ct ∈ ctL tl_start y, ∀ k, 40 ≤ k → CtrOK kd0 sh0 rt0 bd0 Inv0 Ev (runM k) y ct := ctL_ok (b := 40) (l := tl_start) (And.intro (CK_up cc_234 (by decide)) (And.intro (CK_up cc_236 (by decide)) (And.intro (CK_up cc_245 (by decide)) (And.intro (CK_up cc_246 (by decide)) (And.intro (CK_up cc_247 (by decide)) trivial)))))
theorem f_fog {Ev : Env9} : CK Ev 60 (247, ctFg) := fog_ok tl_fog_ok
theorem f_load {Ev : Env9} : CK Ev 100 (252, ctLoad) := load_ok (CK_up cc_249 (by decide)) (CK_up cc_257 (by decide)) tl_echo_ok tl_valley_ok (CK_up cc_156 (by decide)) tl_start_ok f_fog
theorem f_parse {Ev : Env9} : CK Ev 50 (7, ctP) := CK_up (parse_ok tl_parse_ok) (by decide)
theorem f_exec {Ev : Env9} : CK Ev 120 (102, ctX) := exec_ok f_parse (CK_up cc_146 (by decide)) (CK_up cc_126 (by decide)) (CK_up cc_103 (by decide)) (CK_up cc_95 (by decide)) (CK_up cc_108 (by decide)) (CK_up cc_100 (by decide))
theorem f_execR {Ev : Env9} : CK Ev 120 (259, ctZ) := execR_ok (fun k hk => keeps_ok (Or.inl rfl) kp_453 k (Nat.le_trans (by decide) hk)) (CK_up f_199 (by decide)) (CK_up cc_223 (by decide)) (CK_up f_190 (by decide)) (CK_up cc_204 (by decide)) (CK_up cc_174 (by decide)) (CK_up hh_228 (by decide))
end
section
/-! the law's helpers, truncate, thrown on views -/
theorem v_truC {D x : Nat} {f : Vw} (h9 : f 1 1 ≤ 900) (hx : x < 4294967296) : (x ≤ f 1 1 → vM MT0 (D + 1) 100 [vR 0, vI x] f = some ((0, 0), vI x, vup f 1 1 x)) ∧ (¬ x ≤ f 1 1 → vM MT0 (D + 1) 100 [vR 0, vI x] f = some ((2, 1), vW 3, f)) := by
  refine ⟨fun h => ?_, fun h => ?_⟩
  · refine vM_go rfl rfl rfl rfl fun F hF => ?_
    (first | (refine (vge2 (x := x) (y := 0) (by omega) (Nat.zero_le _)).trans ?_) | (refine (vF_g rfl rfl).trans ?_; refine (vF_g rfl rfl).trans ?_; refine (vge2 (x := x) (y := 0) (by omega) (Nat.zero_le _)).trans ?_) | (refine (vF_g rfl rfl).trans ?_; refine (vge2 (x := x) (y := 0) (by omega) (Nat.zero_le _)).trans ?_))
    (first | (refine (vle2 (x := x) (y := f 1 1) (by omega) h).trans ?_) | (refine (vF_g rfl rfl).trans ?_; refine (vF_g rfl rfl).trans ?_; refine (vle2 (x := x) (y := f 1 1) (by omega) h).trans ?_) | (refine (vF_g rfl rfl).trans ?_; refine (vle2 (x := x) (y := f 1 1) (by omega) h).trans ?_))
    (first | (exact rfl) | (refine (vF_g rfl rfl).trans ?_; refine (vF_g rfl rfl).trans ?_; exact rfl) | (refine (vF_g rfl rfl).trans ?_; refine (vF_g rfl rfl).trans ?_; refine (vF_g rfl rfl).trans ?_; exact rfl) | (refine (vF_g rfl rfl).trans ?_; exact rfl))
  · by_cases q : x < 2147483648
    · refine vM_go rfl rfl rfl rfl fun F hF => ?_
      (first | (refine (vge2 (x := x) (y := 0) q (Nat.zero_le _)).trans ?_) | (refine (vF_g rfl rfl).trans ?_; refine (vF_g rfl rfl).trans ?_; refine (vge2 (x := x) (y := 0) q (Nat.zero_le _)).trans ?_) | (refine (vF_g rfl rfl).trans ?_; refine (vge2 (x := x) (y := 0) q (Nat.zero_le _)).trans ?_))
      (first | (refine (vgt (x := x) (y := f 1 1) q (by omega)).trans ?_) | (refine (vF_g rfl rfl).trans ?_; refine (vF_g rfl rfl).trans ?_; refine (vgt (x := x) (y := f 1 1) q (by omega)).trans ?_) | (refine (vF_g rfl rfl).trans ?_; refine (vgt (x := x) (y := f 1 1) q (by omega)).trans ?_))
      (first | (exact rfl) | (refine (vF_g rfl rfl).trans ?_; refine (vF_g rfl rfl).trans ?_; exact rfl) | (refine (vF_g rfl rfl).trans ?_; refine (vF_g rfl rfl).trans ?_; refine (vF_g rfl rfl).trans ?_; exact rfl) | (refine (vF_g rfl rfl).trans ?_; exact rfl))
    · refine vM_go rfl rfl rfl rfl fun F hF => ?_
      (first | (refine (vmin (x := x) (y := 0) (by omega) hx (by decide)).trans ?_) | (refine (vF_g rfl rfl).trans ?_; refine (vF_g rfl rfl).trans ?_; refine (vmin (x := x) (y := 0) (by omega) hx (by decide)).trans ?_) | (refine (vF_g rfl rfl).trans ?_; refine (vmin (x := x) (y := 0) (by omega) hx (by decide)).trans ?_))
      (first | (exact rfl) | (refine (vF_g rfl rfl).trans ?_; refine (vF_g rfl rfl).trans ?_; exact rfl) | (refine (vF_g rfl rfl).trans ?_; refine (vF_g rfl rfl).trans ?_; refine (vF_g rfl rfl).trans ?_; exact rfl) | (refine (vF_g rfl rfl).trans ?_; exact rfl))
theorem in_x {x n : Nat} (hx : x < 4294967296) (hn : n ≤ 900) : (lsg 0 ≤ lsg (toNL (nI x).toInt64) ∧ lsg (toNL (nI x).toInt64) ≤ lsg (toNL (nI n).toInt64)) ↔ x ≤ n := by
  rw [lsg_i2l, lsg_i2l, lsg_s (show 0 < 9223372036854775808 by decide), sg_eq (show n ≤ 2147483647 by omega)]
  unfold sg bi
  omega
theorem v_truR {D x : Nat} {f : Vw} (h9 : f 452 16 ≤ 900) (hx : x < 4294967296) : (x ≤ f 452 16 → vM MT0 (D + 2) 227 [vR 452, vI x] f = some ((0, 0), vI x, vup (vup f 452 6 0) 452 16 x)) ∧ (¬ x ≤ f 452 16 → vM MT0 (D + 2) 227 [vR 452, vI x] f = some ((0, 0), vI 0, vup f 452 6 1)) := by
  refine ⟨fun h => ?_, fun h => ?_⟩
  · have i := v_in1 (D := D) (x := toNL (nI x).toInt64) (a := 0) (b := toNL (nI (f 452 16)).toInt64) (f := f) ((in_x hx h9).mpr h)
    have p := v_passes (D := D) (b := 1) (f := f) (Or.inr rfl)
    refine vM_go rfl rfl rfl rfl fun F hF => ?_
    (first | (refine (vbnd_0 i).trans ?_) | (refine (vF_g rfl rfl).trans ?_; refine (vF_g rfl rfl).trans ?_; refine (vbnd_0 i).trans ?_) | (refine (vF_g rfl rfl).trans ?_; refine (vbnd_0 i).trans ?_))
    (first | (refine (vbnd_0 p).trans ?_) | (refine (vF_g rfl rfl).trans ?_; refine (vF_g rfl rfl).trans ?_; refine (vbnd_0 p).trans ?_) | (refine (vF_g rfl rfl).trans ?_; refine (vbnd_0 p).trans ?_))
    (first | (refine (vgt (x := 1) (y := 0) (by decide) (by decide)).trans ?_) | (refine (vF_g rfl rfl).trans ?_; refine (vF_g rfl rfl).trans ?_; refine (vgt (x := 1) (y := 0) (by decide) (by decide)).trans ?_) | (refine (vF_g rfl rfl).trans ?_; refine (vgt (x := 1) (y := 0) (by decide) (by decide)).trans ?_))
    (first | (exact rfl) | (refine (vF_g rfl rfl).trans ?_; refine (vF_g rfl rfl).trans ?_; exact rfl) | (refine (vF_g rfl rfl).trans ?_; refine (vF_g rfl rfl).trans ?_; refine (vF_g rfl rfl).trans ?_; exact rfl) | (refine (vF_g rfl rfl).trans ?_; exact rfl))
  · have i := v_in0 (D := D) (x := toNL (nI x).toInt64) (a := 0) (b := toNL (nI (f 452 16)).toInt64) (f := f) (fun w => h ((in_x hx h9).mp w))
    have p := v_passes (D := D) (b := 0) (f := f) (Or.inl rfl)
    refine vM_go rfl rfl rfl rfl fun F hF => ?_
    (first | (refine (vbnd_0 i).trans ?_) | (refine (vF_g rfl rfl).trans ?_; refine (vF_g rfl rfl).trans ?_; refine (vbnd_0 i).trans ?_) | (refine (vF_g rfl rfl).trans ?_; refine (vbnd_0 i).trans ?_))
    (first | (refine (vbnd_0 p).trans ?_) | (refine (vF_g rfl rfl).trans ?_; refine (vF_g rfl rfl).trans ?_; refine (vbnd_0 p).trans ?_) | (refine (vF_g rfl rfl).trans ?_; refine (vbnd_0 p).trans ?_))
    (first | (refine (veq (x := 0) (y := 0) rfl).trans ?_) | (refine (vF_g rfl rfl).trans ?_; refine (vF_g rfl rfl).trans ?_; refine (veq (x := 0) (y := 0) rfl).trans ?_) | (refine (vF_g rfl rfl).trans ?_; refine (veq (x := 0) (y := 0) rfl).trans ?_))
    (first | (exact rfl) | (refine (vF_g rfl rfl).trans ?_; refine (vF_g rfl rfl).trans ?_; exact rfl) | (refine (vF_g rfl rfl).trans ?_; refine (vF_g rfl rfl).trans ?_; refine (vF_g rfl rfl).trans ?_; exact rfl) | (refine (vF_g rfl rfl).trans ?_; exact rfl))
/-- what a helper leaves where the call answered -/
noncomputable def outV (c : Nat) (g : Vw) : Vw := vup g 465 0 (toNL (nI c).toInt64)
theorem v_LtruC {D x : Nat} {f : Vw} (h9 : f 1 1 ≤ 900) (hx : x < 4294967296) : (x ≤ f 1 1 → vM MT0 (D + 2) 346 [vR 0, vI x, vR 465] f = some ((0, 0), vI 0, outV x (vup f 1 1 x))) ∧ (¬ x ≤ f 1 1 → vM MT0 (D + 2) 346 [vR 0, vI x, vR 465] f = some ((0, 0), vI 1, f)) := by
  obtain ⟨w1, w2⟩ := v_truC (D := D) h9 hx
  refine ⟨fun h => ?_, fun h => ?_⟩
  · refine vM_go rfl rfl rfl rfl fun F hF => ?_
    (first | (refine (vbnd_0 (w1 h)).trans ?_) | (refine (vF_g rfl rfl).trans ?_; refine (vF_g rfl rfl).trans ?_; refine (vbnd_0 (w1 h)).trans ?_) | (refine (vF_g rfl rfl).trans ?_; refine (vbnd_0 (w1 h)).trans ?_))
    (first | (exact rfl) | (refine (vF_g rfl rfl).trans ?_; refine (vF_g rfl rfl).trans ?_; exact rfl) | (refine (vF_g rfl rfl).trans ?_; refine (vF_g rfl rfl).trans ?_; refine (vF_g rfl rfl).trans ?_; exact rfl) | (refine (vF_g rfl rfl).trans ?_; exact rfl))
  · refine vM_go rfl rfl rfl rfl fun F hF => ?_
    (first | (refine (vbnd_2 (w2 h)).trans ?_) | (refine (vF_g rfl rfl).trans ?_; refine (vF_g rfl rfl).trans ?_; refine (vbnd_2 (w2 h)).trans ?_) | (refine (vF_g rfl rfl).trans ?_; refine (vbnd_2 (w2 h)).trans ?_))
    (first | (exact rfl) | (refine (vF_g rfl rfl).trans ?_; refine (vF_g rfl rfl).trans ?_; exact rfl) | (refine (vF_g rfl rfl).trans ?_; refine (vF_g rfl rfl).trans ?_; refine (vF_g rfl rfl).trans ?_; exact rfl) | (refine (vF_g rfl rfl).trans ?_; exact rfl))
theorem v_LappC {D a b c d e : Nat} {f : Vw} (h9 : f 1 1 ≤ 900) : (f 1 1 + 20 ≤ 900 → vM MT0 (D + 4) 345 [vR 0, vI a, vI b, vI c, vI d, vI e, vR 465] f = some ((0, 0), vI 0, outV (f 1 1 + 20) (abL f (lc20 a b c d e)))) ∧ (¬ f 1 1 + 20 ≤ 900 → vM MT0 (D + 4) 345 [vR 0, vI a, vI b, vI c, vI d, vI e, vR 465] f = some ((0, 0), vI 1, f)) := by
  obtain ⟨w1, w2⟩ := v_appC (D := D) (a := a) (b := b) (c := c) (d := d) (e := e) h9
  refine ⟨fun h => ?_, fun h => ?_⟩
  · refine vM_go rfl rfl rfl rfl fun F hF => ?_
    (first | (refine (vbnd_0 (w1 h)).trans ?_) | (refine (vF_g rfl rfl).trans ?_; refine (vF_g rfl rfl).trans ?_; refine (vbnd_0 (w1 h)).trans ?_) | (refine (vF_g rfl rfl).trans ?_; refine (vbnd_0 (w1 h)).trans ?_))
    (first | (exact rfl) | (refine (vF_g rfl rfl).trans ?_; refine (vF_g rfl rfl).trans ?_; exact rfl) | (refine (vF_g rfl rfl).trans ?_; refine (vF_g rfl rfl).trans ?_; refine (vF_g rfl rfl).trans ?_; exact rfl) | (refine (vF_g rfl rfl).trans ?_; exact rfl))
  · refine vM_go rfl rfl rfl rfl fun F hF => ?_
    (first | (refine (vbnd_2 (w2 h)).trans ?_) | (refine (vF_g rfl rfl).trans ?_; refine (vF_g rfl rfl).trans ?_; refine (vbnd_2 (w2 h)).trans ?_) | (refine (vF_g rfl rfl).trans ?_; refine (vbnd_2 (w2 h)).trans ?_))
    (first | (exact rfl) | (refine (vF_g rfl rfl).trans ?_; refine (vF_g rfl rfl).trans ?_; exact rfl) | (refine (vF_g rfl rfl).trans ?_; refine (vF_g rfl rfl).trans ?_; refine (vF_g rfl rfl).trans ?_; exact rfl) | (refine (vF_g rfl rfl).trans ?_; exact rfl))
theorem v_LloadC {D n : Nat} {T : Nat → Nat} {f : Vw} (hx : TxC f n T) : ((oCfg T).1.1 = 0 → ∃ g, vM MT0 (D + 9) 347 [vR 0, vR 465] f = some ((0, 0), vI 0, outV (oCfg T).2.1.1 g) ∧ g 1 1 = 0 ∧ g 0 13 = 0 ∧ g 0 14 = 4294967295 ∧ g 126 2 = 0 ∧ g 7 2 = (oCfg T).2.1.1 ∧ g 7 3 = (oCfg T).2.1.2 ∧ (oCfg T).2.1.1 ≤ 12 ∧ (oCfg T).2.1.2 ≤ 8 ∧ (∀ j, j < (oCfg T).2.1.1 → ∀ i, i ≤ 4 → g (10 + j) i = (oCfg T).2.2.1 j i) ∧ (∀ j, j < (oCfg T).2.1.2 → ∀ i, i ≤ 4 → g (22 + 3 * j) i = (oCfg T).2.2.2 j i) ∧ (∀ k i, 87 ≤ k → k ≠ 126 → k ≠ 446 → g k i = f k i) ∧ g 0 7 = f 0 7) ∧ ((oCfg T).1.1 ≠ 0 → ∃ g, vM MT0 (D + 9) 347 [vR 0, vR 465] f = some ((0, 0), vI 1, g) ∧ g 1 1 = 0 ∧ g 0 13 = (oCfg T).1.1 ∧ g 0 14 = (oCfg T).1.2 ∧ (∀ k i, (k < 46 ∨ 86 < k) → k ≠ 446 → k ≠ 0 → k ≠ 1 → g k i = f k i) ∧ g 0 7 = f 0 7) := by
  obtain ⟨w1, w2⟩ := v_loadC (D := D) hx
  refine ⟨fun k => ?_, fun k => ?_⟩
  · obtain ⟨g, e, hg⟩ := w1 k
    exact ⟨g, vM_go rfl rfl rfl rfl fun F hF => (by (first | (refine (vbnd_0 e).trans ?_) | (refine (vF_g rfl rfl).trans ?_; refine (vF_g rfl rfl).trans ?_; refine (vbnd_0 e).trans ?_) | (refine (vF_g rfl rfl).trans ?_; refine (vbnd_0 e).trans ?_)); (first | (exact rfl) | (refine (vF_g rfl rfl).trans ?_; refine (vF_g rfl rfl).trans ?_; exact rfl) | (refine (vF_g rfl rfl).trans ?_; refine (vF_g rfl rfl).trans ?_; refine (vF_g rfl rfl).trans ?_; exact rfl) | (refine (vF_g rfl rfl).trans ?_; exact rfl))), hg⟩
  · obtain ⟨g, e, hg⟩ := w2 k
    exact ⟨g, vM_go rfl rfl rfl rfl fun F hF => (by (first | (refine (vbnd_2 e).trans ?_) | (refine (vF_g rfl rfl).trans ?_; refine (vF_g rfl rfl).trans ?_; refine (vbnd_2 e).trans ?_) | (refine (vF_g rfl rfl).trans ?_; refine (vbnd_2 e).trans ?_)); (first | (exact rfl) | (refine (vF_g rfl rfl).trans ?_; refine (vF_g rfl rfl).trans ?_; exact rfl) | (refine (vF_g rfl rfl).trans ?_; refine (vF_g rfl rfl).trans ?_; refine (vF_g rfl rfl).trans ?_; exact rfl) | (refine (vF_g rfl rfl).trans ?_; exact rfl))), hg⟩
end
