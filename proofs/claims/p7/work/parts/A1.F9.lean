/-! the reference's load: what a failing one leaves -/
def PLd (M0 : Mem) (r : Res) : Prop := (rdI r.2.2.2.2.2.1 452 6 = 1 ∧ (∀ i, i < 627 → rdI r.2.2.2.2.2.1 453 i = rdI M0 453 i) ∧ rdI r.2.2.2.2.2.1 452 5 = rdI M0 452 5) ∨ (rdI r.2.2.2.2.2.1 452 6 = 0 ∧ rdI r.2.2.2.2.2.1 452 5 = 0)
def H55 (M0 M : Mem) : Prop := GoodR M 455 0 ∧ (∀ i, i < 627 → rdI M 455 i = rdI M0 453 i) ∧ rdI M 452 5 = rdI M0 452 5
theorem k452 : kd0 452 = 13 := Nat.eq_of_beq_eq_true (by decide +kernel)
theorem h55 {w : Wrg} (hw : ∀ a ∈ w, a.1 ≠ 33) (hv : inW w 13 ((5 : Nat) : Int) = false) {M0 M M' : Mem} (hF : Fr kd0 (inW w) M M') (h : H55 M0 M) : H55 M0 M' :=
  ⟨good_455 hw hF h.1, fun i hi => (hF 455 (by omega) i (by rw [kd_455]; exact inW_no (fun a ha e => absurd e (hw a ha)))).trans (h.2.1 i hi), (hF 452 (by omega) 5 (by rw [k452]; exact hv)).trans h.2.2⟩
theorem c5_3 : inW wL3 13 ((5 : Nat) : Int) = false := by decide +kernel
theorem c5_5 : inW wL5 13 ((5 : Nat) : Int) = false := by decide +kernel
theorem c5_n : inW ([(13, 17, 19)] : Wrg) 13 ((5 : Nat) : Int) = false := by decide +kernel
theorem c5_s : inW wSt 13 ((5 : Nat) : Int) = false := by decide +kernel
theorem chL5eJ : xseg kd0 sh0 rt0 bd0 un0 (inW wL5) PR0 MT0 CT9 6 mdLd [(11, [s7 [fM 16 0 0, fM 6 1 1]])] [] 1000000 5 sLe = true := by decide +kernel
theorem chL10J : xseg kd0 sh0 rt0 bd0 un0 (inW wL5) PR0 MT0 CT9 6 mdLd [(12, [s7 (fM 6 0 0 :: gdR 453 0)])] [] 1000000 10 sL10 = true := by decide +kernel
theorem chL12J : xseg kd0 sh0 rt0 bd0 un0 (inW [(13, 5, 5)]) PRK MT0 CT9 0 mdLd [] [anyI (fM 5 0 0 :: fM 6 0 0 :: gdR 453 0)] 1000000 12 (s7 (fM 6 0 0 :: gdR 453 0)) = true := by decide +kernel
theorem st_run {Ev : Env9} {y : Nat} {md : MDT} {ct : Ctr} {k : Nat} {P : Res → Prop} {vs : List AV} {M : Mem} (hmd : MDOK bo9 y md) (hl : ylen (yflat (yargs ct.1 []).2) ≤ md.1) (h1 : asOK kd0 ct.1 vs) (h2 : PrFa kd0 [] ct.2.1 M) (h3 : PrSu kd0 [] ct.2.2.1 M) (H : ∀ (d : Nat) (c : TrT Blk d), MdC md d c → ∀ f, 1000000000000 ≤ f → ∀ L, SpOK kd0 (spI md.1 ct.1, ct.2.1, ct.2.2.1) L M → OKo (runF (runM k) d c f 0 Ev 466 0 L [] M) P) : OKo (runM (k + 1) y Ev 466 vs M) P := by
  obtain ⟨d, c, e1, e2⟩ := hmd
  rw [hR9, e2]
  have hE0 : yenv [] ([] : YE) := ⟨rfl, fun g e hg => by simp at hg⟩
  obtain ⟨G1, g1, g2, g3⟩ := yargs_ok hE0 h1
  have e : ylen (yflat (yargs ct.1 []).2) = (flatL vs).length := by rw [ylen_eq, svs_len (yflat_ok g3)]
  rw [← e, Nat.ble_eq_true_of_le hl]
  exact H d c e1 1000000000000 (Nat.le_refl _) (iniL md.1 vs) ⟨spI_ok h1, h2, h3⟩
/-! the two copies, by hand -/
theorem callc {call : Call} {Ev : Env9} {a b : Nat} {K : KK} {L : List AV} {M : Mem} {r : Res} (he : call 178 Ev 466 [vR a, vI 0, vR b, vI 0] M = some [r]) (h1 : r.1 = (1, 0)) (h2 : r.2.1 = Ev) (h3 : r.2.2.2.2.2.2.1 = 466) : op_call gS 178 4 0 0 call K Ev 466 0 L [vI 0, vR b, vI 0, vR a] M = K Ev 466 0 L [] r.2.2.2.2.2.1 := by
  obtain ⟨⟨a9, b9⟩, E', v, x, z, M', n', w⟩ := r
  cases h1
  have h2 : E' = Ev := h2
  have h3 : n' = 466 := h3
  subst h2
  subst h3
  have e : op_call gS 178 4 0 0 call K E' 466 0 L [vI 0, vR b, vI 0, vR a] M = gd true (gd true (gd true (gd true (match call 178 E' 466 [vR a, vI 0, vR b, vI 0] M with
    | some rs => joinR (fun r => match r with
      | ((0, _), E', v, _, _, M', n', _) => fN n' fun n' => K E' n' 0 L (v :: []) M'
      | ((1, _), E', _, _, _, M', n', _) => fN n' fun n' => K E' n' 0 L [] M'
      | _ => none) rs
    | none => none)))) := rfl
  rw [e, he, gd4 joinR_1]
  show fN 466 (fun n' => K E' n' 0 L [] M') = _
  rw [fN_eq]
theorem ld_fa : isObjF 452 11 0 (31 + 2) = true := ld_f
theorem ld_fb : isObjF 452 11 2 (33 + 2) = true := by decide +kernel
theorem ld_rb : rt0 452 2 = 455 := Nat.eq_of_beq_eq_true (by decide +kernel)
theorem ld_bk0 {d : Nat} {ct : TrT Blk d} (h : MdC mdLd d ct) : tget d ct 0 = ([op_ld isA 0, op_getf 11 0, op_push (vI 0), op_ld isA 0, op_getf 11 2, op_push (vI 0), op_call gS 178 4 0 0, op_push (vI 0), op_st isI 1], tm_goto 1) := h 0 _ rfl
theorem ld_bk11 {d : Nat} {ct : TrT Blk d} (h : MdC mdLd d ct) : tget d ct 11 = ([op_ld isA 0, op_getf 11 2, op_push (vI 0), op_ld isA 0, op_getf 11 0, op_push (vI 0), op_call gS 178 4 0 0, op_push (vI 0)], tm_ret isI 0) := h 11 _ rfl
theorem n0L (y : AV) : nth [vR 452, y] 0 = vR 452 := rfl
theorem ld_cp0 {Ev : Env9} {d k f : Nat} {ct : TrT Blk d} (hmC : MdC mdLd d ct) {y : AV} (hy : isC2 y = false) {M : Mem} (hT : TI kd0 sh0 rt0 bd0 M) : ∃ M', runF (runM (k + 1)) d ct (f + 1) 0 Ev 466 0 [vR 452, y] [] M = runF (runM (k + 1)) d ct f 1 Ev 466 0 [vR 452, vI 0] [] M' ∧ TI kd0 sh0 rt0 bd0 M' ∧ CpR 453 0 455 0 627 M M' := by
  obtain ⟨fs, o1, o2, o3⟩ := ref_of hT (by decide) ld_fa
  rw [ld_r] at o3
  obtain ⟨fs', p1, p2, p3⟩ := ref_of hT (by decide) ld_fb
  rw [ld_rb] at p3
  obtain ⟨r, e, q1, q2, q3, q4, q5⟩ := cp_call (Ev := Ev) hR9 mdCp_ok (show 453 < 466 by decide) (show 455 < 466 by decide) (Or.inl (by decide)) cq_453_455 (vs := [vR 453, vI 0, vR 455, vI 0]) ⟨⟨rfl, by decide⟩, ⟨0, rfl, by decide, Int.le_of_eq sgZ0.symm, Int.le_of_eq sgZ0⟩, ⟨rfl, by decide⟩, ⟨0, rfl, by decide, Int.le_of_eq sgZ0.symm, Int.le_of_eq sgZ0⟩, trivial⟩ hT (k := k)
  refine ⟨r.2.2.2.2.2.1, ?_, q4, q5⟩
  rw [rF9 f (ld_bk0 hmC), rBc, rBc, rBc, rBc, rBc, rBc, rBc, rBc, rBc, rBn, ldn, n0L, isAv, gdt, op_getf_n o1 o2, o3, pun, ldn, n0L, isAv, gdt, op_getf_n p1 p2, p3, pun, callc e q1 q2 q3, pun, stn, isIv, gdt, show lk2 [vR 452, y] 1 = true from rfl, gdt, gotn]
  exact congrArg (fun L9 => runF (runM (k + 1)) d ct f 1 Ev 466 0 L9 [] r.2.2.2.2.2.1) (show nst [vR 452, y] 1 (vI 0) = [vR 452, vI 0] from rfl)
theorem ld_cp11 {Ev : Env9} {d k f : Nat} {ct : TrT Blk d} (hmC : MdC mdLd d ct) {y : AV} {M : Mem} (hT : TI kd0 sh0 rt0 bd0 M) : ∃ M', runF (runM (k + 1)) d ct (f + 1) 11 Ev 466 0 [vR 452, y] [] M = some [((0, 0), Ev, vI 0, [], [], M', 466, 0)] ∧ TI kd0 sh0 rt0 bd0 M' ∧ CpR 455 0 453 0 627 M M' := by
  obtain ⟨fs, o1, o2, o3⟩ := ref_of hT (by decide) ld_fa
  rw [ld_r] at o3
  obtain ⟨fs', p1, p2, p3⟩ := ref_of hT (by decide) ld_fb
  rw [ld_rb] at p3
  obtain ⟨r, e, q1, q2, q3, q4, q5⟩ := cp_call (Ev := Ev) hR9 mdCp_ok (show 455 < 466 by decide) (show 453 < 466 by decide) (Or.inl (by decide)) cq_455_453 (vs := [vR 455, vI 0, vR 453, vI 0]) ⟨⟨rfl, by decide⟩, ⟨0, rfl, by decide, Int.le_of_eq sgZ0.symm, Int.le_of_eq sgZ0⟩, ⟨rfl, by decide⟩, ⟨0, rfl, by decide, Int.le_of_eq sgZ0.symm, Int.le_of_eq sgZ0⟩, trivial⟩ hT (k := k)
  refine ⟨r.2.2.2.2.2.1, ?_, q4, q5⟩
  rw [rF9 f (ld_bk11 hmC), rBc, rBc, rBc, rBc, rBc, rBc, rBc, rBc, rBn, ldn, n0L, isAv, gdt, op_getf_n p1 p2, p3, pun, ldn, n0L, isAv, gdt, op_getf_n o1 o2, o3, pun, callc e q1 q2 q3, pun, retn, isIv, gdt]
  rfl
theorem load_jok {Ev : Env9} (h0 : CK Ev 40 (240, ct_249)) (h1 : CK Ev 40 (240, ct_257)) (he : ∀ y, ∀ ct ∈ ctL tl_echo y, ∀ k, 40 ≤ k → CtrOK kd0 sh0 rt0 bd0 Inv0 Ev (runM k) y ct) (hv : ∀ y, ∀ ct ∈ ctL tl_valley y, ∀ k, 40 ≤ k → CtrOK kd0 sh0 rt0 bd0 Inv0 Ev (runM k) y ct) (hn : CK Ev 40 (229, ct_156)) (hst : ∀ y, ∀ ct ∈ ctL tl_start y, ∀ k, 40 ≤ k → CtrOK kd0 sh0 rt0 bd0 Inv0 Ev (runM k) y ct) (hfg : CK Ev 60 (247, ctFg)) : ∀ k, 100 ≤ k → ∀ (vs : List AV) (M0 : Mem), asOK kd0 ctLoad.1 vs → PrFa kd0 [] (gdR 453 0) M0 → TI kd0 sh0 rt0 bd0 M0 → Inv0 M0 → OKo (runM k 252 Ev 466 vs M0) (PLd M0) := by
  intro k hk vs M0 a1 a2 a3 a4
  obtain ⟨k', rfl⟩ : ∃ k', k = k' + 1 := ⟨k - 1, by omega⟩
  have hk99 : 99 ≤ k' := by omega
  refine st_run (md := mdLd) (ct := ctLoad) mdLd_ok (Nat.le_of_ble_eq_true rfl) a1 a2 prSu_0 (fun d ct hmC f hf L hQ => ?_)
  have n6 : 6 ≤ k' := Nat.le_trans (nle rfl) hk99
  have hC9 : ∀ {Wp PR : Nat → Int → Bool} {Inv : Mem → Prop} {M : Mem} (D : Nat), Hang kd0 PR Inv → D ≤ 6 → CS kd0 sh0 rt0 bd0 Wp Inv M Ev (runM k') (xM kd0 sh0 rt0 bd0 un0 Wp PR MT0 CT9 D) := fun D hI hD => cs9 hI hR9 hMT9 (Nat.le_trans hD n6)
  have hss := ywsub_ok (Wp := inW wLd) wl_s
  -- the ends
  have end12 : ∀ f, 1000000 ≤ f → ∀ (L : List AV) (M : Mem), SpOK kd0 (s7 (fM 6 0 0 :: gdR 453 0)) L M → TI kd0 sh0 rt0 bd0 M → Inv0 M → Fr kd0 (inW wLd) M0 M → OKo (runF (runM k') d ct f 12 Ev 466 0 L [] M) (PLd M0) := by
    intro f hf L M hQ hT hI hFr
    refine seg1 (C := 1000000) (F := 0) hu0 hang_K (hC9 0 hang_K (by decide)) hmC chL12J hf hQ hT (⟨hI.1, hI.2.1, fun i h1 _ => absurd h1 (Nat.not_lt_zero i)⟩ : InvK 0 M) (fun q q1 => by cases q1) (fun r r1 r2 r3 q => ?_)
    obtain ⟨w, hw, hw1⟩ := q
    obtain rfl := List.mem_singleton.mp hw
    have g4 := fact_at hw1.2.2.1 (c := 452) (i := 5) (lo := 0) (hi := 0) List.mem_cons_self
    have g6 := fact_at hw1.2.2.1 (c := 452) (i := 6) (lo := 0) (hi := 0) (List.mem_cons_of_mem _ List.mem_cons_self)
    exact Or.inr ⟨Int.le_antisymm g6.2 g6.1, Int.le_antisymm g4.2 g4.1⟩
  have end11 : ∀ f, 1000000 ≤ f → ∀ (L : List AV) (M : Mem), SpOK kd0 (s7 [fM 16 0 0, fM 6 1 1]) L M → TI kd0 sh0 rt0 bd0 M → Inv0 M → Fr kd0 (inW wLd) M0 M → H55 M0 M → OKo (runF (runM k') d ct f 11 Ev 466 0 L [] M) (PLd M0) := by
    intro f hf L M hQ hT hI hFr hg
    obtain ⟨y, rfl, _⟩ := lok2 hQ.1
    obtain ⟨f9, rfl⟩ : ∃ f9, f = f9 + 1 := ⟨f - 1, by omega⟩
    obtain ⟨k9, rfl⟩ : ∃ k9, k' = k9 + 1 := ⟨k' - 1, by omega⟩
    obtain ⟨M', e9, e1, e2⟩ := ld_cp11 (Ev := Ev) (k := k9) (f := f9) (y := y) hmC hT
    refine ⟨_, e9, Or.inl ⟨?_, fun i hi => ?_, ?_⟩⟩
    · have g6 := fact_at hQ.2.1 (c := 452) (i := 6) (lo := 1) (hi := 1) (List.mem_cons_of_mem _ List.mem_cons_self)
      exact (e2.2 452 (by decide) 6 (Or.inl (by decide))).trans (Int.le_antisymm g6.2 g6.1)
    · have e3 := e2.1 i hi
      rw [Nat.zero_add] at e3
      exact e3.trans (hg.2.1 i hi)
    · exact (e2.2 452 (by decide) 5 (Or.inl (by decide))).trans hg.2.2
  have err5 : ∀ f, 2000000 ≤ f → ∀ (L : List AV) (M : Mem), SpOK kd0 sLe L M → TI kd0 sh0 rt0 bd0 M → Inv0 M → Fr kd0 (inW wLd) M0 M → H55 M0 M → OKo (runF (runM k') d ct f 5 Ev 466 0 L [] M) (PLd M0) := by
    intro f hf L M hQ hT hI hFr hg
    refine seg1 (posts := []) (C := 1000000) (F := 1000000) hu0 hang_0 (hC9 6 hang_0 (by decide)) hmC chL5eJ hf hQ hT hI (fun w w1 p w2 f' w3 L' M' w4 w5 => ?_) (fun r _ _ _ q => by obtain ⟨p, hp, _⟩ := q; cases hp)
    obtain rfl := List.mem_singleton.mp w1
    obtain rfl := List.mem_singleton.mp w2
    exact end11 f' w3 L' M' w4 w5.1 w5.2.1 (fr_tr hFr w5.2.2 (ywsub_ok (Wp := inW wLd) wl_5)) (h55 n33_5 c5_5 w5.2.2 hg)
  have end10 : ∀ f, 2000000 ≤ f → ∀ (L : List AV) (M : Mem), SpOK kd0 sL10 L M → TI kd0 sh0 rt0 bd0 M → Inv0 M → Fr kd0 (inW wLd) M0 M → OKo (runF (runM k') d ct f 10 Ev 466 0 L [] M) (PLd M0) := by
    intro f hf L M hQ hT hI hFr
    refine seg1 (posts := []) (C := 1000000) (F := 1000000) hu0 hang_0 (hC9 6 hang_0 (by decide)) hmC chL10J hf hQ hT hI (fun w w1 p w2 f' w3 L' M' w4 w5 => ?_) (fun r _ _ _ q => by obtain ⟨p, hp, _⟩ := q; cases hp)
    obtain rfl := List.mem_singleton.mp w1
    obtain rfl := List.mem_singleton.mp w2
    exact end12 f' w3 L' M' w4 w5.1 w5.2.1 (fr_tr hFr w5.2.2 (ywsub_ok (Wp := inW wLd) wl_5))
  -- the lines
  have loop5 : ∀ (n : Nat) f, fu 3000000 3000000 n ≤ f → ∀ (L : List AV) (M : Mem), SpOK kd0 sL5 L M → TI kd0 sh0 rt0 bd0 M → Inv0 M → Fr kd0 (inW wLd) M0 M → H55 M0 M → muL M ≤ (n : Int) → OKo (runF (runM k') d ct f 5 Ev 466 0 L [] M) (PLd M0) := by
    intro n
    induction n with
    | zero =>
      intro f hf L M hQ hT hI hFr hg hn
      have a1 := fact_at hQ.2.1 (c := 452) (i := 17) (lo := 0) (hi := 900) List.mem_cons_self
      have a2 := bdAt_ok bK12 hT
      have a3 := bdAt_ok bV8 hT
      unfold muL at hn
      omega
    | succ n ih =>
      intro f hf L M hQ hT hI hFr hg hn0
      rw [fu_s] at hf
      have hZ := fu_b 3000000 3000000 n
      generalize fu 3000000 3000000 n = Z at ih hf hZ
      have a1 := fact_at hQ.2.1 (c := 452) (i := 17) (lo := 0) (hi := 900) List.mem_cons_self
      refine seg1 (posts := []) (C := 1000000) (F := Z + 1) hu0 hang_A (cs1 (b := 8) hang_A next_A (Nat.le_trans (nle rfl) hk99)) hmC chL5 (by omega) hQ hT (⟨hI, Int.le_refl _⟩ : InvA (rdI M 452 17) M) (fun w w1 p w2 f' w3 L' M' w4 w5 => ?_) (fun r _ _ _ q => by obtain ⟨p, hp, _⟩ := q; cases hp)
      have hFr' := fr_tr hFr w5.2.2 (ywsub_ok (Wp := inW wLd) wl_n)
      have hg' := h55 n33_n c5_n w5.2.2 hg
      have eK := fr_s kv_c w5.2.2
      have eV := fr_s kv_d w5.2.2
      rcases List.mem_cons.mp w1 with z | w1
      · subst z
        obtain rfl := List.mem_singleton.mp w2
        obtain ⟨g, rfl, hg1⟩ := ex1 w3
        obtain ⟨y, rfl, _⟩ := lok2 w4.1
        obtain ⟨fs, o1, _, _⟩ := ref_of w5.1 (by decide) ld_f
        obtain ⟨r, x1, x2, x3, x4, x5, x6, x7, x8⟩ := stmt_ok h0 h1 he hv hn (k := k') (Nat.le_trans (nle rfl) hk99) w5.1 w5.2.1.1 (fun a ha => w4.2.1 a (by
          rcases List.mem_cons.mp ha with e | ha
          · rw [e]; exact List.mem_cons_self
          · rw [List.mem_singleton.mp ha]; exact List.mem_cons_of_mem _ List.mem_cons_self))
        rw [rF9 g (ld_b9 hmC), rBc, rBc, rBn, ldn, show nth [vR 452, y] 0 = vR 452 from rfl, isAv, gdt, calln o1 x1 x2 x3 x4, gotn]
        have hFs := fr_tr hFr' x7 hss
        have hgs := h55 (fun a ha e => by
          have := allL_ok n33_s a ha
          rw [e] at this
          cases this) c5_s x7 hg'
        have hz2 : 2000000 ≤ g := Nat.le_trans (nle rfl) (Nat.le_trans hZ hg1)
        have b1 := fact_at w4.2.1 (c := 452) (i := 17) (lo := 0) (hi := 900) List.mem_cons_self
        rcases x8 with x8 | ⟨x8, x9⟩
        · exact err5 g hz2 _ _ ⟨w4.1, x8, fun q hq => by cases hq⟩ x5 x6 hFs hgs
        · have c3 := fact_at w4.2.1 (c := 453) (i := 3) (lo := 1) (hi := 30) (List.mem_cons_of_mem _ (List.mem_cons_of_mem _ List.mem_cons_self))
          have c4 := fact_at w4.2.1 (c := 453) (i := 4) (lo := 1) (hi := 12) (List.mem_cons_of_mem _ (List.mem_cons_of_mem _ (List.mem_cons_of_mem _ List.mem_cons_self)))
          have d3 := fr_s kv_3 x7
          have d4 := fr_s kv_4 x7
          have d1 := fact_at x8 (c := 452) (i := 17) (lo := 0) (hi := 900) List.mem_cons_self
          refine ih g hg1 _ _ ⟨w4.1, prFa_app (l := [fM 17 0 900, fM 20 0 0]) x8 (prFa_app (l := [k31 3 1 30]) (prFa_1 (c := 453) (i := 3) (by decide) (by rw [d3]; exact c3.1) (by rw [d3]; exact c3.2)) (prFa_1 (c := 453) (i := 4) (by decide) (by rw [d4]; exact c4.1) (by rw [d4]; exact c4.2))), fun q hq => by cases hq⟩ x5 x6 hFs hgs ?_
          rcases x9 with x9 | ⟨x9, x10, x11⟩
          · exact mu1 hn0 a1.2 d1.1 (x9.trans (by rw [eK, eV]))
          · exact mu2 hn0 (x9.trans eK) (x10.trans eV) w5.2.1.2 x11
      · obtain rfl := List.mem_singleton.mp w1
        obtain rfl := List.mem_singleton.mp w2
        exact end10 f' (Nat.le_trans (Nat.le_trans (nle rfl) hZ) (Nat.le_trans (Nat.le_succ _) w3)) L' M' w4 w5.1 w5.2.1.1 hFr'
  -- the start
  obtain ⟨y9, rfl, hy9⟩ := lok2 (show lOK kd0 [some (1, 452, 0), none] L from hQ.1)
  obtain ⟨f', rfl⟩ : ∃ f', f = f' + 1 := ⟨f - 1, by omega⟩
  have w3 : 500000000000 ≤ f' := by omega
  obtain ⟨k9, rfl⟩ : ∃ k9, k' = k9 + 1 := ⟨k' - 1, by omega⟩
  obtain ⟨M', e9, eT, eC⟩ := ld_cp0 (Ev := Ev) (k := k9) (f := f') hmC hy9 a3
  rw [e9]
  have eI : Inv0 M' := Inv0_cp (by decide) (by decide) eC ⟨by decide, by decide⟩ (by decide) (by decide) a4
  have hFr' : Fr kd0 (inW wLd) M0 M' := fun j hj i hi => by
    by_cases e : j = 455
    · subst e
      rw [kd_455] at hi
      have e6 : 627 ≤ i := by
        refine Nat.le_of_not_lt (fun h6 => ?_)
        have := ywsub_ok (Wp := inW wLd) wl_0 33 ((0 + i : Nat) : Int) (wRow_in h6)
        rw [Nat.zero_add, hi] at this
        cases this
      exact eC.2 455 hj i (Or.inr (Or.inr (by omega)))
    · exact eC.2 j hj i (Or.inl e)
  have hg : H55 M0 M' := ⟨good_of_cp9 eC (good_of a2), fun i hi => by
    have e3 := eC.1 i hi
    rw [Nat.zero_add] at e3
    exact e3, eC.2 452 (by decide) 5 (Or.inl (by decide))⟩
  refine ld_loop (M := M') hmC (F := 400000000000) (fun f1 hf1 M1 g2 g3 => ?_) 627 0 f' M' (by decide) (Nat.le_trans (nle rfl) w3) ⟨fun j hj => absurd hj (Nat.not_lt_zero j), fun _ _ _ _ => rfl⟩ eT
  have hI1 := inv_zr g2 eI
  have hg1 : H55 M0 M1 := ⟨GoodR_eq (k := 455) (o := 0) (fun j _ => g2.2 455 (by decide) _ (Or.inl (by decide))) hg.1, fun i hi => (g2.2 455 (by decide) i (Or.inl (by decide))).trans (hg.2.1 i hi), (g2.2 452 (by decide) 5 (Or.inl (by decide))).trans hg.2.2⟩
  have hFz : Fr kd0 (inW wLd) M0 M1 := fun j hj i hi => by
    by_cases e : j = 453
    · subst e
      rw [kd_s] at hi
      have e6 : 627 ≤ i := by
        refine Nat.le_of_not_lt (fun h6 => ?_)
        have := ywsub_ok (Wp := inW wLd) wl_r 31 ((0 + i : Nat) : Int) (wRow_in h6)
        rw [Nat.zero_add, hi] at this
        cases this
      rw [g2.2 453 hj i (Or.inr e6)]
      exact hFr' 453 hj i (by rw [kd_s]; exact hi)
    · rw [g2.2 j hj i (Or.inl e)]
      exact hFr' j hj i hi
  have hL3 : lOK kd0 sL3.1 [vR 452, vI 627] := ⟨⟨rfl, by decide⟩, ⟨627, rfl, by decide, by rw [sg_eq (show 627 ≤ 2147483647 by decide)]; exact Int.le_refl _, by rw [sg_eq (show 627 ≤ 2147483647 by decide)]; exact Int.le_refl _⟩, trivial⟩
  have hclL : ∀ y, ∀ ct ∈ ctL clL y, ∀ k, 60 ≤ k → CtrOK kd0 sh0 rt0 bd0 Inv0 Ev (runM k) y ct := by
    intro y ct hm k hk
    have hm : ct ∈ (Bool.rec (ctL tl_start y) (ctFg :: ctL tl_start y) (Nat.beq 247 y) : List Ctr) := hm
    cases hb : Nat.beq 247 y with
    | false => rw [hb] at hm; exact hst y ct hm k (Nat.le_trans (nle rfl) hk)
    | true =>
      rw [hb] at hm
      rcases List.mem_cons.mp hm with e | e
      · rw [e, ← Nat.eq_of_beq_eq_true hb]; exact hfg k hk
      · exact hst y ct e k (Nat.le_trans (nle rfl) hk)
  refine seg1 (posts := []) (C := 1000000) (F := 300000000000) hu0 hang_0 (csL (b := 60) (l := clL) hang_0 hclL (Nat.le_trans (nle rfl) hk99)) hmC chL3 (Nat.le_trans (nle rfl) hf1) ⟨hL3, (fun q hq => by cases hq), (fun q hq => by cases hq)⟩ g3 hI1 (fun w w1 p w2 f2 w3 L2 M2 w4 w5 => ?_) (fun r _ _ _ q => by obtain ⟨p, hp, _⟩ := q; cases hp)
  obtain rfl := List.mem_singleton.mp w1
  have hF2 := fr_tr hFz w5.2.2 (ywsub_ok (Wp := inW wLd) wl_3)
  have hg2 := h55 n33_3 c5_3 w5.2.2 hg1
  rcases List.mem_cons.mp w2 with z | w2
  · subst z
    have a1 := fact_at w4.2.1 (c := 452) (i := 17) (lo := 0) (hi := 900) List.mem_cons_self
    have a2 := bdAt_ok bK12 w5.1
    have a3 := bdAt_ok bV8 w5.1
    have hfu : fu 3000000 3000000 20901 ≤ f2 := by rw [fu_e]; exact Nat.le_trans (nle rfl) w3
    exact loop5 20901 f2 hfu L2 M2 w4 w5.1 w5.2.1 hF2 hg2 (by unfold muL; omega)
  · obtain rfl := List.mem_singleton.mp w2
    exact err5 f2 (Nat.le_trans (nle rfl) w3) L2 M2 w4 w5.1 w5.2.1 hF2 hg2
theorem f_ldJ {Ev : Env9} : ∀ k, 100 ≤ k → ∀ (vs : List AV) (M0 : Mem), asOK kd0 ctLoad.1 vs → PrFa kd0 [] (gdR 453 0) M0 → TI kd0 sh0 rt0 bd0 M0 → Inv0 M0 → OKo (runM k 252 Ev 466 vs M0) (PLd M0) := load_jok (CK_up cc_249 (by decide)) (CK_up cc_257 (by decide)) tl_echo_ok tl_valley_ok (CK_up cc_156 (by decide)) tl_start_ok f_fog
