/-! the reference's executeCommands: both ends -/
theorem rel_tv {c d v x y : Nat} {sv sx sy : Int} (hc : c ≤ 12) (hd : d ≤ 8) (hv : sv = (v : Int)) (hx : x ≤ 1000 → sx = (x : Int)) (hy : y ≤ 1000 → sy = (y : Int)) (lx : -2147483648 ≤ sx ∧ sx ≤ 2147483647) (ly : -2147483648 ≤ sy ∧ sy ≤ 2147483647) (h : TVal c d v x y) : Rel9 sv sx sy := by
  rcases h with ⟨rfl, h1, h2⟩ | rfl | ⟨rfl, h1, h2⟩ | ⟨rfl | rfl, h1⟩ | ⟨rfl, h1, h2, h3⟩ | ⟨rfl, h1, h2, h3⟩
  · have ex := hx (by omega)
    exact ⟨(0, (1, 60), (-2147483648, 2147483647)), by decide, hv, ⟨by show (1 : Int) ≤ sx; omega, by show sx ≤ (60 : Int); omega⟩, ly⟩
  · exact ⟨(1, (-2147483648, 2147483647), (-2147483648, 2147483647)), by decide, hv, lx, ly⟩
  · have ex := hx (by omega)
    have ey := hy (by omega)
    exact ⟨(2, (0, 7), (0, 11)), by decide, hv, ⟨by show (0 : Int) ≤ sx; omega, by show sx ≤ (7 : Int); omega⟩, ⟨by show (0 : Int) ≤ sy; omega, by show sy ≤ (11 : Int); omega⟩⟩
  · have ex := hx (by omega)
    exact ⟨(3, (0, 11), (-2147483648, 2147483647)), by decide, hv, ⟨by show (0 : Int) ≤ sx; omega, by show sx ≤ (11 : Int); omega⟩, ly⟩
  · have ex := hx (by omega)
    exact ⟨(6, (0, 11), (-2147483648, 2147483647)), by decide, hv, ⟨by show (0 : Int) ≤ sx; omega, by show sx ≤ (11 : Int); omega⟩, ly⟩
  · have ex := hx (by omega)
    have ey := hy (by omega)
    exact ⟨(4, (0, 7), (1, 99)), by decide, hv, ⟨by show (0 : Int) ≤ sx; omega, by show sx ≤ (7 : Int); omega⟩, ⟨by show (1 : Int) ≤ sy; omega, by show sy ≤ (99 : Int); omega⟩⟩
  · have ex := hx (by omega)
    have ey := hy (by omega)
    exact ⟨(5, (0, 7), (1, 999)), by decide, hv, ⟨by show (0 : Int) ≤ sx; omega, by show sx ≤ (7 : Int); omega⟩, ⟨by show (1 : Int) ≤ sy; omega, by show sy ≤ (999 : Int); omega⟩⟩
theorem rn_objS {M : Mem} {k i : Nat} {q : Nat × List Nat} (hT : TS M) (hk : k < 466) (hs : sh0 (kd0 k) = .inl q) (hi : q.2[i]? = some 0) : rdI M k i = sg (rN M k i) ∧ rN M k i < 4294967296 := by
  obtain ⟨fs, e1, e2, e3⟩ := co_obj (bd := bdF) hT hk hs
  obtain ⟨x, x1, x2, -⟩ := e3 i 0 hi
  have a : rdI M k i = avI (nth fs i) := by
    show rdC (tget 9 M k) i = _
    rw [e1]
    rfl
  have b : rN M k i = rN1 (nth fs i) := by
    show rNc (tget 9 M k) i = _
    rw [e1]
    rfl
  rw [a, b, x1]
  exact ⟨rfl, x2⟩
theorem rn_arrS {M : Mem} {k i : Nat} {q : Nat × Nat} (hT : TS M) (hk : k < 466) (hs : sh0 (kd0 k) = .inr (.inl q)) : rdI M k i = sg (rN M k i) ∧ rN M k i < 4294967296 := by
  obtain ⟨p, e1, -, -⟩ := co_arr (bd := bdF) hT hk hs
  have a : rdI M k i = sg (pget p i) := by
    show rdC (tget 9 M k) i = _
    rw [e1]
    rfl
  have b : rN M k i = pget p i := by
    show rNc (tget 9 M k) i = _
    rw [e1]
    rfl
  rw [a, b]
  exact ⟨rfl, pget_lt p i⟩
theorem so452Y : ∃ q, sh0 (kd0 452) = .inl q ∧ allL [6, 16, 17, 18, 19, 20, 21, 22, 23, 25] (fun i => match q.2[i]? with | some 0 => true | _ => false) = true := ⟨_, rfl, by decide +kernel⟩
theorem sa463Y : ∃ q, sh0 (kd0 463) = .inr (.inl q) := ⟨_, rfl⟩
theorem sa453Y : ∃ q, sh0 (kd0 453) = .inr (.inl q) := ⟨_, rfl⟩
theorem un463Y : un0 (kd0 463) = true := by decide +kernel
theorem bd463Y : bd0 (kd0 463) 0 = (-2147483648, 2147483647) := by decide +kernel
theorem bdY : bd0 (kd0 452) 6 = (-2147483648, 2147483647) ∧ bd0 (kd0 452) 16 = (0, 900) ∧ bd0 (kd0 452) 17 = (0, 901) ∧ bd0 (kd0 452) 18 = (0, 901) ∧ bd0 (kd0 452) 19 = (0, 900) ∧ bd0 (kd0 452) 20 = (0, 4) ∧ bd0 (kd0 452) 21 = (-2147483648, 2147483647) ∧ bd0 (kd0 452) 22 = (-2147483648, 2147483647) ∧ bd0 (kd0 452) 23 = (-2147483648, 2147483647) ∧ bd0 (kd0 452) 25 = (0, 30) := by decide +kernel
theorem prTY : kd0 452 = 13 ∧ kd0 463 = 41 := by decide +kernel
theorem prFY : allL [6, 16, 17, 18, 19, 20, 21, 22, 23, 25] (fun i => snot (PRT 0 (kd0 452) ((i : Nat) : Int))) = true := by decide +kernel
theorem prHY (i : Int) : PRT 0 (kd0 463) i = false := by
  have e : kd0 463 = 41 := prTY.2
  rw [e]
  show (Bool.rec false (ile 0 i) (ile (i + 1) ((3 * 0 : Nat) : Int)) : Bool) = false
  cases h1 : ile (i + 1) ((3 * 0 : Nat) : Int) with
  | false => rfl
  | true =>
    cases h2 : ile 0 i with
    | false => rfl
    | true =>
      have a := ile_iff.mp h1
      have b := ile_iff.mp h2
      omega
theorem ens_22 {f : Vw} : ens f 452 22 = f 452 20 := (vup_ne (Or.inr (by decide))).trans (vup_eq.trans (vup_ne (Or.inr (by decide))))
theorem ens_23 {f : Vw} : ens f 452 23 = f 452 21 := vup_eq.trans ((vup_ne (Or.inr (by decide))).trans (vup_ne (Or.inr (by decide))))
theorem ens_16 {f : Vw} : ens f 452 16 = 0 := (vup_ne (Or.inr (by decide))).trans ((vup_ne (Or.inr (by decide))).trans vup_eq)
theorem ens_o {f : Vw} {a b : Nat} (h : a ≠ 452 ∨ (b ≠ 16 ∧ b ≠ 22 ∧ b ≠ 23)) : ens f a b = f a b := (vup_ne (by omega)).trans ((vup_ne (by omega)).trans (vup_ne (by omega)))
theorem sta_o {f : Vw} {a b : Nat} (h : a ≠ 452 ∨ (b ≠ 17 ∧ b ≠ 18 ∧ b ≠ 20 ∧ b ≠ 21)) : sta f a b = f a b := (vup_ne (by omega)).trans ((vup_ne (by omega)).trans ((vup_ne (by omega)).trans (vup_ne (by omega))))
theorem rd_rn {M M' : Mem} (hT : TS M) (hT' : TS M') {k i : Nat} (hk : k < 466) (h : rN M' k i = rN M k i) : rdI M' k i = rdI M k i := by
  have h1 := hT k hk
  have h2 := hT' k hk
  have e0 : rN M' k i = rNc (tget 9 M' k) i := rfl
  have e1 : rN M k i = rNc (tget 9 M k) i := rfl
  have e2 : rdI M' k i = rdC (tget 9 M' k) i := rfl
  have e3 : rdI M k i = rdC (tget 9 M k) i := rfl
  rw [e0, e1] at h
  rw [e2, e3]
  unfold cOK at h1 h2
  generalize sh0 (kd0 k) = s9 at h1 h2
  rcases s9 with q | q | q | N
  · obtain ⟨fs, a1, a2, a3⟩ := h1
    obtain ⟨gs, b1, b2, b3⟩ := h2
    rw [a1, b1] at h ⊢
    have h : rN1 (nth gs i) = rN1 (nth fs i) := h
    show avI (nth gs i) = avI (nth fs i)
    cases hi : q.2[i]? with
    | none =>
      have l1 : fs.length ≤ i := by rw [a2]; exact List.getElem?_eq_none_iff.mp hi
      have l2 : gs.length ≤ i := by rw [b2]; exact List.getElem?_eq_none_iff.mp hi
      rw [nth_out l1, nth_out l2]
    | some ft =>
      have c1 := a3 i ft hi
      have c2 := b3 i ft hi
      match ft, c1, c2 with
      | 0, c1, c2 =>
        obtain ⟨x, x1, -⟩ := c1
        obtain ⟨y, y1, -⟩ := c2
        rw [x1, y1] at h ⊢
        have h : y = x := h
        rw [h]
      | 1, c1, c2 =>
        obtain ⟨x, x1⟩ := c1
        obtain ⟨y, y1⟩ := c2
        rw [x1, y1] at h ⊢
        have h : y = x := h
        rw [h]
      | f + 2, c1, c2 => rw [c1.1, c2.1]
  · obtain ⟨p, a1, -, -⟩ := h1
    obtain ⟨p', b1, -, -⟩ := h2
    rw [a1, b1] at h ⊢
    have h : pget p' i = pget p i := h
    show sg (pget p' i) = sg (pget p i)
    rw [h]
  · obtain ⟨xs, a1, -, -⟩ := h1
    obtain ⟨ys, b1, -, -⟩ := h2
    rw [a1, b1]
    rfl
  · obtain ⟨xs, a1, a2, a3⟩ := h1
    obtain ⟨ys, b1, b2, b3⟩ := h2
    rw [a1, b1] at h ⊢
    have h : rN1 (nth ys i) = rN1 (nth xs i) := h
    show avJ (nth ys i) = avJ (nth xs i)
    rcases Nat.lt_or_ge i N with q | q
    · obtain ⟨x, x1⟩ := a3 i q
      obtain ⟨y, y1⟩ := b3 i q
      rw [x1, y1] at h ⊢
      have h : y = x := h
      rw [h]
    · rw [nth_out (show xs.length ≤ i by omega), nth_out (show ys.length ≤ i by omega)]
theorem ch10 {i : Nat} : (i = 6 ∨ i = 16 ∨ i = 17 ∨ i = 18 ∨ i = 19 ∨ i = 20 ∨ i = 21 ∨ i = 22 ∨ i = 23 ∨ i = 25) ∨ (i ≠ 6 ∧ i ≠ 16 ∧ i ≠ 17 ∧ i ≠ 18 ∧ i ≠ 19 ∧ i ≠ 20 ∧ i ≠ 21 ∧ i ≠ 22 ∧ i ≠ 23 ∧ i ≠ 25) := by omega
theorem sgS {x n : Nat} (h : x ≤ n) (hn : n ≤ 2147483647) : 0 ≤ sg x ∧ sg x ≤ (n : Int) := by
  rw [sg_eq (show x ≤ 2147483647 by omega)]
  omega
theorem exR_ok {Ev : Env9} {k : Nat} (hk : 120 ≤ k) {M : Mem} (hT : TI kd0 sh0 rt0 bd0 M) (hI : Inv0 M) (hG : GoodR M 453 0) {n c d : Nat} {T : Nat → Nat} {E V : Nat → Nat → Nat} (hR : RS n T E V c d 0 (sta (rN M))) : ((oCm T (fun j => E j 0) c (fun j => V j 0) d 30 0).1 ≠ 0 → ∃ (v : AV) (S L : List AV) (M' : Mem) (z : Nat), runM k 259 Ev 466 [vR 452] M = some [((0, 0), Ev, v, S, L, M', 466, z)] ∧ rN M' 452 22 = (oCm T (fun j => E j 0) c (fun j => V j 0) d 30 0).1 ∧ rN M' 452 23 = (oCm T (fun j => E j 0) c (fun j => V j 0) d 30 0).2) ∧ ((oCm T (fun j => E j 0) c (fun j => V j 0) d 30 0).1 = 0 → OKo (runM k 259 Ev 466 [vR 452] M) ZeP) := by
  obtain ⟨k', rfl⟩ : ∃ k', k = k' + 1 := ⟨k - 1, by omega⟩
  obtain ⟨d9, ct, hmC, hrun⟩ := (show MDOK bo9 259 mdZ from mo_X11_executeCommands rfl _)
  have er : runM (k' + 1) 259 Ev 466 [vR 452] M = runF (runM k') d9 ct 1000000000000 0 Ev 466 0 [vR 452, vW 3] [] M := (hR9 k' 259 Ev 466 [vR 452] M).trans ((hrun (runM k') Ev 466 [vR 452] M).trans rfl)
  obtain ⟨q, q0, q1, q20, q25⟩ := so452X
  obtain ⟨v0, S0, L0, M1, z1, e1, -, hT1, hw1⟩ := vrun (Ev := Ev) (k := k') (D := 1) (by omega) wlR (TS_of hT) (v_starts (D := 0))
  obtain ⟨M2, hput, hT2, hw2⟩ := rb_putI (x := 0) hT1 (show 452 < 466 by decide) q0 q1 q25 (by decide)
  have r1 : RS n T E V c d 0 (rN M1) := rs_ws hR hw1
  have r2 : RS n T E V c d 0 (rN M2) := rs_ws (rs_25 r1) hw2
  have x25 : rN M2 452 25 = 0 := (hw2 452 (by decide) 25).trans vup_eq
  obtain ⟨F, M4, hF, hgo, hT4, c1, c2⟩ := zx_loop (y := vW 3) (Ev := Ev) hmC (show 20 ≤ k' by omega) 30 0 0 M2 (by omega) r2 x25 hT2 (fun j hj => absurd hj (Nat.not_lt_zero _))
  have g01 : ∀ f, runF (runM k') d9 ct (f + 1) 0 Ev 466 0 [vR 452, vW 3] [] M = runF (runM k') d9 ct f 1 Ev 466 0 [vR 452, vW 3] [] M2 := fun f => by
    rw [rF9 f (zb_0 hmC)]
    exact (rb_ld rfl).trans ((rb_callV (as := [vR 452]) (rest := []) rfl rfl rfl (by decide) (gvT (TS_of hT)) e1).trans ((rb_ld rfl).trans (rb_push.trans ((hput _ _ _ _ _ _ _ _ _).trans rb_goto9))))
  obtain ⟨f0, ef, hf0⟩ : ∃ f0, 1000000000000 = f0 + 3 + F + 1 ∧ 700000000 ≤ f0 := ⟨1000000000000 - (F + 4), by omega, by omega⟩
  have run4 : runM (k' + 1) 259 Ev 466 [vR 452] M = runF (runM k') d9 ct (f0 + 3) 4 Ev 466 0 [vR 452, vW 3] [] M4 := by
    rw [er, ef, g01 (f0 + 3 + F)]
    exact hgo (f0 + 3)
  have b12 : ∀ a b, a < 466 → (a ≠ 452 ∨ (b ≠ 17 ∧ b ≠ 18 ∧ b ≠ 20 ∧ b ≠ 21 ∧ b ≠ 25)) → rN M2 a b = rN M a b := fun a b ha h => (hw2 a ha b).trans ((vup_ne (by omega)).trans ((hw1 a ha b).trans (sta_o (by omega))))
  refine ⟨fun w => ?_, fun w => ?_⟩
  · have he := c2 w
    obtain ⟨v5, S5, L5, M5, z5, e5, hv5, hT5, hw5⟩ := vrun (Ev := Ev) (k := k') (D := 1) (by omega) wlR hT4 (v_ends (D := 0) (f := rN M4) (by rw [he.1]; exact he.2.2.2))
    have hv5 := hv5 rfl
    rw [if_neg (by rw [he.1]; exact he.2.2.1)] at hv5
    subst hv5
    obtain ⟨v6, S6, L6, M6, z6, e6, hv6, hT6, hw6⟩ := vrun (Ev := Ev) (k := k') (D := 1) (by omega) (wl_k (v := vR 452) trivial (wl_k (v := vI 0) (by show 0 < 4294967296; decide) vwl_0)) hT5 (v_passes (D := 0) (b := 0) (f := rN M5) (Or.inl rfl))
    have hv6 := hv6 rfl
    subst hv6
    refine ⟨vI 0, [], [], M6, 0, ?_, ?_, ?_⟩
    · rw [run4, rF9 (f0 + 2) (zb_4 hmC)]
      refine (rb_ld rfl).trans ((rb_ld rfl).trans ((rb_callB (as := [vR 452]) (rest := [vR 452]) rfl rfl rfl (by decide) (gvT hT4) e5).trans ((rb_callB (as := [vR 452, vI 0]) (rest := []) rfl rfl rfl (by decide) (gvT hT5) e6).trans (rb_if.trans ((c3_sameX rfl).trans ?_)))))
      rw [rF9 (f0 + 1) (zb_5 hmC)]
      exact rb_push.trans rfl
    · exact (hw6 452 (by decide) 22).trans ((vup_ne (Or.inr (by decide))).trans ((hw5 452 (by decide) 22).trans (ens_22.trans he.1)))
    · exact (hw6 452 (by decide) 23).trans ((vup_ne (Or.inr (by decide))).trans ((hw5 452 (by decide) 23).trans (ens_23.trans he.2.1)))
  · obtain ⟨q', i', hRS, hi', h25, hL, hFr, z18, z19⟩ := c1 w
    have e20 : rN M4 452 20 = 0 := hRS.er.1
    obtain ⟨v5, S5, L5, M5, z5, e5, hv5, hT5, hw5⟩ := vrun (Ev := Ev) (k := k') (D := 1) (by omega) wlR hT4 (v_ends (D := 0) (f := rN M4) (by rw [e20]; decide))
    have hv5 := hv5 rfl
    rw [if_pos e20] at hv5
    subst hv5
    obtain ⟨v6, S6, L6, M6, z6, e6, hv6, hT6, hw6⟩ := vrun (Ev := Ev) (k := k') (D := 1) (by omega) (wl_k (v := vR 452) trivial (wl_k (v := vI 1) (by show 1 < 4294967296; decide) vwl_0)) hT5 (v_passes (D := 0) (b := 1) (f := rN M5) (Or.inr rfl))
    have hv6 := hv6 rfl
    subst hv6
    have six : ∀ a b, a < 466 → (a ≠ 452 ∨ (b ≠ 6 ∧ b ≠ 16 ∧ b ≠ 22 ∧ b ≠ 23)) → rN M6 a b = rN M4 a b := fun a b ha h => (hw6 a ha b).trans ((vup_ne (by omega)).trans ((hw5 a ha b).trans (ens_o (by omega))))
    have v16 : rN M6 452 16 = 0 := (hw6 452 (by decide) 16).trans ((vup_ne (Or.inr (by decide))).trans ((hw5 452 (by decide) 16).trans ens_16))
    have v22 : rN M6 452 22 = 0 := (hw6 452 (by decide) 22).trans ((vup_ne (Or.inr (by decide))).trans ((hw5 452 (by decide) 22).trans (ens_22.trans e20)))
    have v23 : rN M6 452 23 = 4294967295 := (hw6 452 (by decide) 23).trans ((vup_ne (Or.inr (by decide))).trans ((hw5 452 (by decide) 23).trans (ens_23.trans hRS.er.2)))
    have v17 : rN M6 452 17 ≤ 901 := by
      rw [six 452 17 (by decide) (Or.inr ⟨by decide, by decide, by decide, by decide⟩), hRS.at_]
      have := hRS.le
      have := hRS.tx.1
      omega
    have v18 : rN M6 452 18 ≤ 901 := by
      rw [six 452 18 (by decide) (Or.inr ⟨by decide, by decide, by decide, by decide⟩)]
      omega
    have v19 : rN M6 452 19 ≤ 900 := by
      rw [six 452 19 (by decide) (Or.inr ⟨by decide, by decide, by decide, by decide⟩)]
      omega
    have v20 : rN M6 452 20 = 0 := (six 452 20 (by decide) (Or.inr ⟨by decide, by decide, by decide, by decide⟩)).trans e20
    have v25 : rN M6 452 25 = i' := (six 452 25 (by decide) (Or.inr ⟨by decide, by decide, by decide, by decide⟩)).trans h25
    have all : ∀ a b, a < 466 → a ≠ 463 → (a ≠ 452 ∨ (b ≠ 6 ∧ b ≠ 16 ∧ b ≠ 17 ∧ b ≠ 18 ∧ b ≠ 19 ∧ b ≠ 20 ∧ b ≠ 21 ∧ b ≠ 22 ∧ b ≠ 23 ∧ b ≠ 25)) → rN M6 a b = rN M a b := fun a b ha h3 h => by
      rw [six a b ha (by omega)]
      by_cases e : a = 452
      · subst e
        rw [hFr.2 b (by omega)]
        exact b12 452 b ha (by omega)
      · rw [hFr.1 a b ha e h3]
        exact b12 a b ha (Or.inl e)
    obtain ⟨p9, p0, pf⟩ := so452Y
    have fld : ∀ i, i ∈ [6, 16, 17, 18, 19, 20, 21, 22, 23, 25] → rdI M6 452 i = sg (rN M6 452 i) ∧ rN M6 452 i < 4294967296 := fun i hi => by
      have h := allL_ok pf i hi
      cases hq : p9.2[i]? with
      | none => rw [hq] at h; cases h
      | some ft =>
        rw [hq] at h
        cases ft with
        | zero => exact rn_objS hT6 (by decide) p0 hq
        | succ ft => cases h
    have full : ∀ i, i ∈ [6, 16, 17, 18, 19, 20, 21, 22, 23, 25] → -2147483648 ≤ rdI M6 452 i ∧ rdI M6 452 i ≤ 2147483647 := fun i hi => by
      rw [(fld i hi).1]
      exact ⟨sg_lo _, sg_hi _⟩
    have bnd : ∀ i n9, i ∈ [6, 16, 17, 18, 19, 20, 21, 22, 23, 25] → rN M6 452 i ≤ n9 → n9 ≤ 2147483647 → 0 ≤ rdI M6 452 i ∧ rdI M6 452 i ≤ (n9 : Int) := fun i n9 hi h1 h2 => by
      rw [(fld i hi).1]
      exact sgS h1 h2
    obtain ⟨y6, y16, y17, y18, y19, y20, y21, y22, y23, y25⟩ := bdY
    obtain ⟨s9, hs9⟩ := sa463Y
    have hT6' : TI kd0 sh0 rt0 bd0 M6 := ti_mix hT hT6 (fun kk hkk i => by
      by_cases e : kk = 463
      · subst e
        refine Or.inr ?_
        rw [hu0 _ _ un463Y, bd463Y, (rn_arrS hT6 (by decide) hs9).1]
        exact ⟨sg_lo _, sg_hi _⟩
      · by_cases e2 : kk = 452
        · subst e2
          rcases ch10 (i := i) with h | h
          · refine Or.inr ?_
            rcases h with rfl | rfl | rfl | rfl | rfl | rfl | rfl | rfl | rfl | rfl
            · show (bd0 (kd0 452) 6).1 ≤ rdI M6 452 6 ∧ rdI M6 452 6 ≤ (bd0 (kd0 452) 6).2
              rw [y6]
              exact full 6 (by decide)
            · show (bd0 (kd0 452) 16).1 ≤ rdI M6 452 16 ∧ rdI M6 452 16 ≤ (bd0 (kd0 452) 16).2
              rw [y16]
              exact bnd 16 900 (by decide) (by rw [v16]; decide) (by decide)
            · show (bd0 (kd0 452) 17).1 ≤ rdI M6 452 17 ∧ rdI M6 452 17 ≤ (bd0 (kd0 452) 17).2
              rw [y17]
              exact bnd 17 901 (by decide) v17 (by decide)
            · show (bd0 (kd0 452) 18).1 ≤ rdI M6 452 18 ∧ rdI M6 452 18 ≤ (bd0 (kd0 452) 18).2
              rw [y18]
              exact bnd 18 901 (by decide) v18 (by decide)
            · show (bd0 (kd0 452) 19).1 ≤ rdI M6 452 19 ∧ rdI M6 452 19 ≤ (bd0 (kd0 452) 19).2
              rw [y19]
              exact bnd 19 900 (by decide) v19 (by decide)
            · show (bd0 (kd0 452) 20).1 ≤ rdI M6 452 20 ∧ rdI M6 452 20 ≤ (bd0 (kd0 452) 20).2
              rw [y20]
              exact bnd 20 4 (by decide) (by rw [v20]; decide) (by decide)
            · show (bd0 (kd0 452) 21).1 ≤ rdI M6 452 21 ∧ rdI M6 452 21 ≤ (bd0 (kd0 452) 21).2
              rw [y21]
              exact full 21 (by decide)
            · show (bd0 (kd0 452) 22).1 ≤ rdI M6 452 22 ∧ rdI M6 452 22 ≤ (bd0 (kd0 452) 22).2
              rw [y22]
              exact full 22 (by decide)
            · show (bd0 (kd0 452) 23).1 ≤ rdI M6 452 23 ∧ rdI M6 452 23 ≤ (bd0 (kd0 452) 23).2
              rw [y23]
              exact full 23 (by decide)
            · show (bd0 (kd0 452) 25).1 ≤ rdI M6 452 25 ∧ rdI M6 452 25 ≤ (bd0 (kd0 452) 25).2
              rw [y25]
              exact bnd 25 30 (by decide) (by rw [v25]; exact hi') (by decide)
          · exact Or.inl (all 452 i hkk (by decide) (Or.inr h))
        · exact Or.inl (all kk i hkk e (Or.inl e2)))
    -- ints that stand
    have rd : ∀ k0, k0 < 466 → k0 ≠ 463 → ∀ i, (k0 ≠ 452 ∨ (i ≠ 6 ∧ i ≠ 16 ∧ i ≠ 17 ∧ i ≠ 18 ∧ i ≠ 19 ∧ i ≠ 20 ∧ i ≠ 21 ∧ i ≠ 22 ∧ i ≠ 23 ∧ i ≠ 25)) → rdI M6 k0 i = rdI M k0 i := fun k0 h1 h2 i h3 => rd_rn (TS_of hT) hT6 h1 (all k0 i h1 h2 h3)
    have hIT : InvT 0 M := ⟨⟨hI.1, hI.2.1.1, hI.2.1.2.1, hI.2.2⟩, fun i h1 _ => absurd h1 (Nat.not_lt_zero _)⟩
    have hI6 : InvT 0 M6 := hang_TT (allN_ok hgT_a 0 (by omega)) M M6 hIT (fun k0 hk0 i hp => by
      by_cases e : k0 = 463
      · subst e
        rw [prHY] at hp
        cases hp
      · by_cases e2 : k0 = 452
        · subst e2
          rcases ch10 (i := i) with h | h
          · exfalso
            have hm : i ∈ [6, 16, 17, 18, 19, 20, 21, 22, 23, 25] := by
              rcases h with rfl | rfl | rfl | rfl | rfl | rfl | rfl | rfl | rfl | rfl <;> decide
            have w9 := snot_t (allL_ok prFY i hm)
            rw [w9] at hp
            cases hp
          · exact rd 452 hk0 (by decide) i (Or.inr h)
        · exact rd k0 hk0 e i (Or.inl e2))
    have d25 : rdI M6 452 25 = (i' : Int) := by
      rw [(fld 25 (by decide)).1, v25]
      exact sg_eq (by omega)
    have hX : XTo M6 := fun i hi h9 => by
      rw [d25] at h9
      obtain ⟨v, v1, v2, v3⟩ := hL i (by omega)
      have s6 : ∀ b, rN M6 463 b = rN M4 463 b := fun b => six 463 b (by decide) (Or.inl (by decide))
      rw [← s6, ← s6] at v3
      rw [← s6] at v2
      have a0 := rn_arrS (i := 3 * i) hT6 (show 463 < 466 by decide) hs9
      have a1 := rn_arrS (i := 3 * i + 1) hT6 (show 463 < 466 by decide) hs9
      have a2 := rn_arrS (i := 3 * i + 1 + 1) hT6 (show 463 < 466 by decide) hs9
      rw [show 3 * i + 2 = 3 * i + 1 + 1 by omega]
      rw [a0.1, a1.1, a2.1]
      exact rel_tv hRS.c9 hRS.d9 (by rw [v2]; exact sg_eq (by omega)) (fun h => sg_eq (by omega)) (fun h => sg_eq (by omega)) ⟨sg_lo _, sg_hi _⟩ ⟨sg_lo _, sg_hi _⟩ v3
    have hI6' : Inv0 M6 := ⟨hI6.1.1, ⟨hI6.1.2.1, hI6.1.2.2.1, hX⟩, hI6.1.2.2.2⟩
    have hG6 : GoodR M6 453 0 := GoodR_eq (fun j hj => rd 453 (by decide) (by decide) (0 + j) (Or.inl (by decide))) hG
    have go := exR_st (Ev := Ev) (show 119 ≤ k' by omega) hmC (f0 + 2) (by omega) [vR 452, vW 3] M6 ⟨⟨⟨rfl, by decide⟩, rfl, trivial⟩, prFa_app (l := [fM 16 0 0, fM 22 0 0, fM 23 (-1) (-1)]) (prFa_app (l := [fM 16 0 0]) (prFa_1 (c := 452) (i := 16) (by decide) (by rw [(fld 16 (by decide)).1, v16, sg_0X]; decide) (by rw [(fld 16 (by decide)).1, v16, sg_0X]; decide)) (prFa_app (l := [fM 22 0 0]) (prFa_1 (c := 452) (i := 22) (by decide) (by rw [(fld 22 (by decide)).1, v22, sg_0X]; decide) (by rw [(fld 22 (by decide)).1, v22, sg_0X]; decide)) (prFa_1 (c := 452) (i := 23) (by decide) (by rw [(fld 23 (by decide)).1, v23, sgm1]; decide) (by rw [(fld 23 (by decide)).1, v23, sgm1]; decide)))) (of_good (by decide) hG6), fun q hq => by cases hq⟩ hT6' hI6'
    rw [run4, rF9 (f0 + 2) (zb_4 hmC)]
    refine okEq ?_ go
    exact (rb_ld rfl).trans ((rb_ld rfl).trans ((rb_callB (as := [vR 452]) (rest := [vR 452]) rfl rfl rfl (by decide) (gvT hT4) e5).trans ((rb_callB (as := [vR 452, vI 1]) (rest := []) rfl rfl rfl (by decide) (gvT hT5) e6).trans (rb_if.trans (c3_neB (bi_neX (by decide) (by decide) (by decide)))))))
