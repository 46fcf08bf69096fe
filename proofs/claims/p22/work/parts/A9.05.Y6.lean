/-! contracts of the program's side under the money's invariants -/
theorem ctr_view2 {Ev : Env9} {y D b : Nat} {ct : Ctr} {args : List APt} {Inv : Mem → Prop} (h : ∀ k, b ≤ k → CtrOK kd0 sh0 rt0 bd0 Inv0 Ev (runM k) y ct) (hb : D + 5 ≤ b) (hct : ∀ vs, asOK kd0 args vs → asOK kd0 ct.1 vs ∧ WL vs) (hI0 : ∀ M, Inv M → Inv0 M) (hJ : ∀ vs M, asOK kd0 args vs → PrFa kd0 [] ct.2.1 M → TI kd0 sh0 rt0 bd0 M → Inv M → ∃ e0 v0 g, vM MT0 D y vs (rN M) = some (e0, v0, g) ∧ ∀ M', TI kd0 sh0 rt0 bd0 M' → Inv0 M' → (∀ k, k < 466 → ∀ i, rN M' k i = g k i) → (∀ k : Nat, k < 466 → ∀ i : Nat, inW ct.2.2.2.1 (kd0 k) i = false → rdI M' k i = rdI M k i) → Inv M') : ∀ k, b ≤ k → CtrOK kd0 sh0 rt0 bd0 Inv Ev (runM k) y (args, ct.2) := by
  intro k hk vs M h1 h2 h3 hT hInv
  obtain ⟨hc1, hc2⟩ := hct vs h1
  obtain ⟨r, e, r1, r2, r3, r4, r5, p, p1, p2⟩ := h k hk vs M hc1 h2 h3 hT (hI0 M hInv)
  obtain ⟨e0, v0, g, hv, hg⟩ := hJ vs M h1 h2 hT hInv
  obtain ⟨v', S', L', M'', z', e', hv', -, hf⟩ := vM_ok (E := Ev) D k (by omega) y vs (rN M) M (e0, v0, g) hc2 (TS_of hT) (fun _ _ _ => rfl) hv
  have e2 : some [r] = some [(e0, Ev, v', S', L', M'', 466, z')] := e.symm.trans e'
  injection e2 with e3
  injection e3 with e4
  subst e4
  exact ⟨_, e, r1, r2, r3, hg _ r3 r4 hf r5, r5, p, p1, p2⟩
theorem so4m : ∃ q, sh0 4 = .inl q ∧ ∀ i, i = 2 ∨ i = 3 ∨ i = 7 ∨ i = 8 ∨ i = 9 ∨ i = 10 → q.2[i]? = some 0 := ⟨_, rfl, by rintro i (rfl | rfl | rfl | rfl | rfl | rfl) <;> rfl⟩
theorem so5m : ∃ q, sh0 5 = .inl q ∧ q.2[5]? = some 0 ∧ q.2[7]? = some 0 := ⟨_, rfl, rfl, rfl⟩
theorem so6m : ∃ q, sh0 6 = .inl q ∧ q.2[4]? = some 0 ∧ q.2[6]? = some 0 := ⟨_, rfl, rfl, rfl⟩
theorem s19 : ∃ q, sh0 19 = .inr (.inl q) := ⟨_, rfl⟩
theorem s24 : ∃ q, sh0 (kd0 442) = .inr (.inl q) := ⟨_, rfl⟩
theorem soHm : ∃ q, sh0 (kd0 126) = .inl q ∧ q.2[1]? = some 0 ∧ q.2[2]? = some 0 := ⟨_, rfl, rfl, rfl⟩
theorem rn_W {M : Mem} {A a b : Nat} (hT : TI kd0 sh0 rt0 bd0 M) (hA : A ∈ W9m) (h : MPl A a b) : rdI M a b = sg (rN M a b) ∧ rN M a b < 4294967296 := by
  obtain ⟨k4, k5, k6, k9⟩ := kW_okm hA
  have hl := W9_ltm A hA
  rcases h with ⟨rfl, hb⟩ | ⟨e, he, rfl, rfl⟩ | ⟨v, hv, ⟨rfl, hb⟩ | ⟨rfl, hb⟩⟩
  · obtain ⟨q, h1, h2⟩ := so4m
    rw [← k4] at h1
    exact rn_obj hT (by omega) h1 (h2 b hb)
  · obtain ⟨q, h1, h2, -⟩ := so5m
    rw [← k5 e he] at h1
    exact rn_obj hT (by omega) h1 h2
  · obtain ⟨q, h1, h2, h3⟩ := so6m
    rw [← k6 v hv] at h1
    rcases hb with rfl | rfl
    · exact rn_obj hT (by omega) h1 h2
    · exact rn_obj hT (by omega) h1 h3
  · obtain ⟨q, h1⟩ := s19
    rw [← k9 v hv] at h1
    exact rn_arr hT (by omega) h1
theorem rn_em {M : Mem} {A e : Nat} (hT : TI kd0 sh0 rt0 bd0 M) (hA : A ∈ W9m) (he : e < 12) : rdI M (A + 3 + e) 7 = sg (rN M (A + 3 + e) 7) ∧ rN M (A + 3 + e) 7 < 4294967296 := by
  obtain ⟨k4, k5, k6, k9⟩ := kW_okm hA
  have hl := W9_ltm A hA
  obtain ⟨q, h1, -, h2⟩ := so5m
  rw [← k5 e he] at h1
  exact rn_obj hT (by omega) h1 h2
theorem rnHm {M : Mem} {i : Nat} (hT : TI kd0 sh0 rt0 bd0 M) (hi : i = 1 ∨ i = 2) : rdI M 126 i = sg (rN M 126 i) ∧ rN M 126 i < 4294967296 := by
  obtain ⟨q, h1, h2, h3⟩ := soHm
  rcases hi with rfl | rfl
  · exact rn_obj hT (by decide) h1 h2
  · exact rn_obj hT (by decide) h1 h3
theorem fz_W {M : Mem} {A a b : Nat} (hT : TI kd0 sh0 rt0 bd0 M) (hA : A ∈ W9m) (h : MPl A a b) : fZ M a b = rN M a b := fZ_rn (rn_W hT hA h)
/-! what the bounds say of a world -/
noncomputable def bW (A : Nat) : Bool := Bool.rec false (Bool.rec false (Bool.rec false (allN 12 (fun e => bdAt (A + 3 + e) 7 (-1) 7)) (allN 8 (fun v => Bool.rec false (allN 3 (fun i => bdAt (A + 16 + 3 * v) i 0 11)) (bdAt (A + 15 + 3 * v) 6 0 3)))) (bdAt A 3 0 8)) (bdAt A 2 0 12)
theorem bW_all : allL W9m bW = true := by decide +kernel
theorem bW_ok {A : Nat} (h : A ∈ W9m) : bdAt A 2 0 12 = true ∧ bdAt A 3 0 8 = true ∧ (∀ v, v < 8 → bdAt (A + 15 + 3 * v) 6 0 3 = true ∧ ∀ i, i < 3 → bdAt (A + 16 + 3 * v) i 0 11 = true) ∧ ∀ e, e < 12 → bdAt (A + 3 + e) 7 (-1) 7 = true := by
  obtain ⟨h1, h2⟩ := band (show (Bool.rec false (Bool.rec false (Bool.rec false (allN 12 (fun e => bdAt (A + 3 + e) 7 (-1) 7)) (allN 8 (fun v => Bool.rec false (allN 3 (fun i => bdAt (A + 16 + 3 * v) i 0 11)) (bdAt (A + 15 + 3 * v) 6 0 3)))) (bdAt A 3 0 8)) (bdAt A 2 0 12) : Bool) = true from allL_ok bW_all A h)
  obtain ⟨h2, h3⟩ := band h2
  obtain ⟨h3, h4⟩ := band h3
  refine ⟨h1, h2, fun v hv => ?_, fun e he => allN_ok h4 e he⟩
  obtain ⟨a, b⟩ := band (show (Bool.rec false (allN 3 (fun i => bdAt (A + 16 + 3 * v) i 0 11)) (bdAt (A + 15 + 3 * v) 6 0 3) : Bool) = true from allN_ok h3 v hv)
  exact ⟨a, fun i hi => allN_ok b i hi⟩
theorem sg_nn {x : Nat} {n : Int} (hx : x < 4294967296) (h0 : 0 ≤ sg x) (h1 : sg x ≤ n) : (x : Int) ≤ n := by
  unfold sg bi at h0 h1
  omega
theorem bd_W {M : Mem} {A : Nat} (hT : TI kd0 sh0 rt0 bd0 M) (hA : A ∈ W9m) : rN M A 2 ≤ 12 ∧ rN M A 3 ≤ 8 ∧ StB (rN M) A ∧ (∀ v, v < 8 → ∀ i, i < 3 → rN M (A + 16 + 3 * v) i < 12) ∧ ∀ e, e < 12 → rN M (A + 3 + e) 7 = 4294967295 ∨ rN M (A + 3 + e) 7 < 8 := by
  obtain ⟨b1, b2, b3, b4⟩ := bW_ok hA
  have key : ∀ (a b : Nat) (n : Int), rdI M a b = sg (rN M a b) ∧ rN M a b < 4294967296 → bdAt a b 0 n = true → (rN M a b : Int) ≤ n := fun a b n h1 h2 => by
    obtain ⟨c1, c2⟩ := bdAt_ok h2 hT
    rw [h1.1] at c1 c2
    exact sg_nn h1.2 c1 c2
  refine ⟨?_, ?_, fun v hv => ?_, fun v hv i hi => ?_, fun e he => ?_⟩
  · have := key A 2 12 (rn_W hT hA (Or.inl ⟨rfl, by omega⟩)) b1
    omega
  · have := key A 3 8 (rn_W hT hA (Or.inl ⟨rfl, by omega⟩)) b2
    omega
  · have := key _ 6 3 (rn_W hT hA (Or.inr (Or.inr ⟨v, hv, Or.inl ⟨rfl, Or.inr rfl⟩⟩))) (b3 v hv).1
    omega
  · have := key _ i 11 (rn_W hT hA (Or.inr (Or.inr ⟨v, hv, Or.inr ⟨rfl, hi⟩⟩))) ((b3 v hv).2 i hi)
    omega
  · have h1 := rn_em hT hA he
    obtain ⟨c1, c2⟩ := bdAt_ok (b4 e he) hT
    rw [h1.1] at c1 c2
    have h2 := h1.2
    generalize rN M (A + 3 + e) 7 = x at *
    unfold sg bi at c1 c2
    omega
theorem tyHm : bdAt 126 1 0 7 = true ∧ bdAt 126 2 0 8 = true := by decide +kernel
theorem cntHm {M : Mem} (hT : TI kd0 sh0 rt0 bd0 M) : rN M 126 1 < 8 ∧ rN M 126 2 ≤ 8 := by
  obtain ⟨a1, a2⟩ := bdAt_ok tyHm.1 hT
  obtain ⟨b1, b2⟩ := bdAt_ok tyHm.2 hT
  have r1 := rnHm hT (Or.inl rfl)
  have r2 := rnHm hT (Or.inr rfl)
  rw [r1.1] at a1 a2
  rw [r2.1] at b1 b2
  have := sg_nn r1.2 a1 a2
  have := sg_nn r2.2 b1 b2
  omega
/-! both sides out of a view -/
theorem MB_rn {M : Mem} {A : Nat} (hT : TI kd0 sh0 rt0 bd0 M) (hA : A ∈ WB) (h : JCm M) : MB (rN M) A := MB_eq (fun a b hp => (fz_W hT (WB_9 A hA) hp).symm) (h A hA)
theorem MB_of {M : Mem} {g : Vw} {A : Nat} (hT : TI kd0 sh0 rt0 bd0 M) (hA : A ∈ W9m) (hg : ∀ k, k < 466 → ∀ i, rN M k i = g k i) (h : MB g A) : MB (fZ M) A := MB_eq (fun a b hp => (fz_W hT hA hp).trans (hg a (jp_W hA hp).1 b)) h
theorem W9_djm : ∀ A ∈ W9m, ∀ C ∈ WB, C ≠ A → C + 39 ≤ A ∨ A + 39 ≤ C := by decide
theorem W9_inm {A a b : Nat} (h : MPl A a b) : A ≤ a ∧ a < A + 39 := by
  rcases h with ⟨rfl, hb⟩ | ⟨e, he, rfl, rfl⟩ | ⟨v, hv, ⟨rfl, hb⟩ | ⟨rfl, hb⟩⟩ <;> omega
/-- all worlds but one stand as they stood -/
theorem JC_view {M M' : Mem} {g : Vw} {A : Nat} (hA : A ∈ W9m) (hT : TI kd0 sh0 rt0 bd0 M) (hT' : TI kd0 sh0 rt0 bd0 M') (hg : ∀ k, k < 466 → k ≠ 126 → ∀ i, rN M' k i = g k i) (hf : ∀ a b, a < A ∨ A + 39 ≤ a → a ≠ 126 → g a b = rN M a b) (h : JCm M) (h1 : A ∈ WB → MB g A) : JCm M' := by
  intro C hC
  have n126 : ∀ C ∈ WB, C + 39 ≤ 126 ∨ 126 < C := by decide
  by_cases q : C = A
  · subst q
    exact MB_eq (fun a b hp => (fz_W hT' hA hp).trans (hg a (jp_W hA hp).1 (by have := W9_inm hp; have := n126 C hC; omega) b)) (h1 hC)
  · have dj := W9_djm A hA C hC q
    refine MB_eq (fun a b hp => ?_) (MB_rn hT hC h)
    have hi := W9_inm hp
    have := n126 C hC
    exact (fz_W hT' (WB_9 C hC) hp).trans ((hg a (jp_W (WB_9 C hC) hp).1 (by omega) b).trans (hf a b (by omega) (by omega)))
noncomputable def nRow (ct : Ctr) : Bool := allL ct.2.2.2.1 (fun a => snot (memN a.1 [31, 32, 33, 34, 35]))
theorem JR_nr {ct : Ctr} (h : nRow ct = true) {M M' : Mem} (hf : ∀ k : Nat, k < 466 → ∀ i : Nat, inW ct.2.2.2.1 (kd0 k) i = false → rdI M' k i = rdI M k i) (hR : JRm M) : JRm M' := fun q hq => MBR_mv (fun i hi _ => fZ_eq (hf q.1 (rows9_lt q hq) _ (by
  cases hb : inW ct.2.2.2.1 (kd0 q.1) ((q.2 + i : Nat) : Int) with
  | false => rfl
  | true =>
    exfalso
    obtain ⟨a, m1, m2, m3, m4⟩ := inW_mem hb
    have h1 := snot_t (allL_ok h a m1)
    rw [m2, allL_ok kr9 q hq] at h1
    cases h1))) (hR q hq)
/-- a copy of a world -/
theorem MB_cp {A B : Nat} {f g : Vw} (hc : CpW A B f g) (h : MB f B) : MB g A := by
  obtain ⟨p1, p2, p3, p4⟩ := hc
  refine MB_mv (fun b hb => p1 b (by omega) (by omega)) (fun e he => p2 e he 5 (by decide)) (fun v hv => ⟨(p3 v hv).1 4 (by decide) (by decide) (by decide), (p3 v hv).1 6 (by decide) (by decide) (by decide)⟩) (fun v i hv hi => ?_) h
  have := (p3 v hv).2.1 i hi
  rw [show A + 16 + 3 * v = A + 15 + 3 * v + 1 by omega, show B + 16 + 3 * v = B + 15 + 3 * v + 1 by omega]
  exact this
theorem wl2m {a b : Nat} : WL [vR a, vR b] := wl_k (v := vR a) trivial (wl_k (v := vR b) trivial vwl_0)
theorem as_c {p : APt} {l : List APt} {vs : List AV} (h : asOK kd0 (p :: l) vs) : ∃ v w, vs = v :: w ∧ aOK kd0 p v ∧ asOK kd0 l w := by
  cases vs with
  | nil => exact False.elim h
  | cons v w => exact ⟨v, w, rfl, h.1, h.2⟩
theorem as_n {vs : List AV} (h : asOK kd0 [] vs) : vs = [] := by
  cases vs with
  | nil => rfl
  | cons v w => exact False.elim h
theorem as2 {a b : Nat} {vs : List AV} (h : asOK kd0 [(1, (a : Int), 0), (1, (b : Int), 0)] vs) : vs = [vR a, vR b] := by
  obtain ⟨x, w, rfl, h1, h⟩ := as_c h
  obtain ⟨y, w, rfl, h2, h⟩ := as_c h
  have e1 : x = vR a := h1.1
  have e2 : y = vR b := h2.1
  rw [e1, e2, as_n h]
theorem as1 {a : Nat} {vs : List AV} (h : asOK kd0 [(1, (a : Int), 0)] vs) : vs = [vR a] := by
  obtain ⟨x, w, rfl, h1, h⟩ := as_c h
  have e1 : x = vR a := h1.1
  rw [e1, as_n h]
theorem as3 {a : Nat} {lo hi : Int} {vs : List AV} (h : asOK kd0 [(1, (a : Int), 0), (0, lo, hi)] vs) : ∃ x, vs = [vR a, vI x] ∧ x < 4294967296 ∧ lo ≤ sg x ∧ sg x ≤ hi := by
  obtain ⟨x, w, rfl, h1, h5⟩ := as_c h
  obtain ⟨y, w, rfl, h2, h6⟩ := as_c h5
  have e1 : x = vR a := h1.1
  obtain ⟨x, rfl, h2, h3, h4⟩ := h2
  exact ⟨x, by rw [e1, as_n h6], h2, h3, h4⟩
theorem n4_46m : nRow ct_46 = true := by decide +kernel
noncomputable def cp46m : Ctr := ([(1, 46, 0), (1, 7, 0)], ct_46.2)
theorem cp46_okm {Ev : Env9} {v u v' u' : Nat → Int} : CKI (Inv1m v u v' u') Ev 9 (70, cp46m) := by
  refine ctr_view2 (D := 2) (b := 9) (cc_46 (Ev := Ev)) (by decide) (fun vs h => ?_) (fun M h => h.1) (fun vs M h1 _ hT hI => ?_)
  · obtain rfl := as2 (a := 46) (b := 7) h
    exact ⟨⟨⟨46, rfl, by decide, by decide +kernel⟩, ⟨7, rfl, by decide, by decide +kernel⟩, trivial⟩, wl2m⟩
  · obtain rfl := as2 (a := 46) (b := 7) h1
    obtain ⟨k2, k3, -⟩ := bd_W hT (show 7 ∈ W9m by decide)
    obtain ⟨g, e, hc⟩ := v_cp_46_7 (D := 0) (f := rN M) k2 k3
    exact ⟨_, _, g, e, fun M' hT' hI' hf hW => ⟨hI', JC_view (A := 46) (by decide) hT hT' (fun k hk _ i => hf k hk i) (fun a b q _ => hc.2.2.2 a b q) hI.2.1 (fun q => absurd q (by decide)), JR_nr n4_46m hW hI.2.2⟩⟩
theorem n4_78 : nRow ct_46 = true := by decide +kernel
noncomputable def cp78 : Ctr := ([(1, 7, 0), (1, 87, 0)], ct_46.2)
theorem cp78_ok {Ev : Env9} {v u v' u' : Nat → Int} : CKI (Inv1m v u v' u') Ev 9 (70, cp78) := by
  refine ctr_view2 (D := 2) (b := 9) (cc_46 (Ev := Ev)) (by decide) (fun vs h => ?_) (fun M h => h.1) (fun vs M h1 _ hT hI => ?_)
  · obtain rfl := as2 (a := 7) (b := 87) h
    exact ⟨⟨⟨7, rfl, by decide, by decide +kernel⟩, ⟨87, rfl, by decide, by decide +kernel⟩, trivial⟩, wl2m⟩
  · obtain rfl := as2 (a := 7) (b := 87) h1
    obtain ⟨k2, k3, -⟩ := bd_W hT (show 87 ∈ W9m by decide)
    obtain ⟨g, e, hc⟩ := v_cp_7_87 (D := 0) (f := rN M) k2 k3
    exact ⟨_, _, g, e, fun M' hT' hI' hf hW => ⟨hI', JC_view (A := 7) (by decide) hT hT' (fun k hk _ i => hf k hk i) (fun a b q _ => hc.2.2.2 a b q) hI.2.1 (fun q => MB_cp hc (MB_rn hT (show 87 ∈ WB by decide) hI.2.1)), JR_nr n4_78 hW hI.2.2⟩⟩
theorem n4_87 : nRow ct_46 = true := by decide +kernel
noncomputable def cp87 : Ctr := ([(1, 87, 0), (1, 7, 0)], ct_46.2)
theorem cp87_ok {Ev : Env9} {v u v' u' : Nat → Int} : CKI (Inv1m v u v' u') Ev 9 (70, cp87) := by
  refine ctr_view2 (D := 2) (b := 9) (cc_46 (Ev := Ev)) (by decide) (fun vs h => ?_) (fun M h => h.1) (fun vs M h1 _ hT hI => ?_)
  · obtain rfl := as2 (a := 87) (b := 7) h
    exact ⟨⟨⟨87, rfl, by decide, by decide +kernel⟩, ⟨7, rfl, by decide, by decide +kernel⟩, trivial⟩, wl2m⟩
  · obtain rfl := as2 (a := 87) (b := 7) h1
    obtain ⟨k2, k3, -⟩ := bd_W hT (show 7 ∈ W9m by decide)
    obtain ⟨g, e, hc⟩ := v_cp_87_7 (D := 0) (f := rN M) k2 k3
    exact ⟨_, _, g, e, fun M' hT' hI' hf hW => ⟨hI', JC_view (A := 87) (by decide) hT hT' (fun k hk _ i => hf k hk i) (fun a b q _ => hc.2.2.2 a b q) hI.2.1 (fun q => MB_cp hc (MB_rn hT (show 7 ∈ WB by decide) hI.2.1)), JR_nr n4_87 hW hI.2.2⟩⟩
theorem v_pushSm {D s : Nat} (hs : s < 8) {f0 : Vw} (hc8 : f0 126 2 ≤ 8) (k2 : f0 7 2 ≤ 12) (k3 : f0 7 3 ≤ 8) : ∃ g1 g, vM MT0 (D + 3) 27 [vR 126, vR 7] (vup f0 126 1 s) = some ((1, 0), vW 3, g) ∧ CpW (128 + 39 * s) 7 (vup f0 126 1 s) g1 ∧ (∀ k i, k ≠ 126 → g k i = g1 k i) ∧ g 126 1 = (s + 1) % 8 ∧ g 126 2 = (if f0 126 2 < 8 then f0 126 2 + 1 else 8) :=
  match s, hs with
    | 0, _ => v_push_0 (D := D) hc8 k2 k3
    | 1, _ => v_push_1 (D := D) hc8 k2 k3
    | 2, _ => v_push_2 (D := D) hc8 k2 k3
    | 3, _ => v_push_3 (D := D) hc8 k2 k3
    | 4, _ => v_push_4 (D := D) hc8 k2 k3
    | 5, _ => v_push_5 (D := D) hc8 k2 k3
    | 6, _ => v_push_6 (D := D) hc8 k2 k3
    | 7, _ => v_push_7 (D := D) hc8 k2 k3
    | n + 8, h => absurd h (by omega)
theorem v_popSm {D s : Nat} (hs : s < 8) {f0 : Vw} (hc : 1 ≤ f0 126 2) (hc8 : f0 126 2 ≤ 8) (k2 : f0 (128 + 39 * s) 2 ≤ 12) (k3 : f0 (128 + 39 * s) 3 ≤ 8) : ∃ g1 g, vM MT0 (D + 3) 28 [vR 126, vR 7] (vup f0 126 1 ((s + 1) % 8)) = some ((1, 0), vW 3, g) ∧ CpW 7 (128 + 39 * s) (vup (vup f0 126 1 ((s + 1) % 8)) 126 1 s) g1 ∧ (∀ k i, k ≠ 126 → g k i = g1 k i) ∧ g 126 1 = s ∧ g 126 2 = f0 126 2 - 1 :=
  match s, hs, k2, k3 with
    | 0, _, k2, k3 => v_pop_0 (D := D) hc hc8 k2 k3
    | 1, _, k2, k3 => v_pop_1 (D := D) hc hc8 k2 k3
    | 2, _, k2, k3 => v_pop_2 (D := D) hc hc8 k2 k3
    | 3, _, k2, k3 => v_pop_3 (D := D) hc hc8 k2 k3
    | 4, _, k2, k3 => v_pop_4 (D := D) hc hc8 k2 k3
    | 5, _, k2, k3 => v_pop_5 (D := D) hc hc8 k2 k3
    | 6, _, k2, k3 => v_pop_6 (D := D) hc hc8 k2 k3
    | 7, _, k2, k3 => v_pop_7 (D := D) hc hc8 k2 k3
    | n + 8, h, _, _ => absurd h (by omega)
theorem v_popZm {D : Nat} {f : Vw} (hc : f 126 2 = 0) : vM MT0 (D + 1) 28 [vR 126, vR 7] f = some ((1, 0), vW 3, f) := by
  refine vM_go rfl rfl rfl rfl fun F hF => ?_
  refine (vF_g rfl rfl).trans ?_
  refine (vlt (x := f 126 2) (y := 1) (by decide) (by rw [hc]; decide)).trans ?_
  exact (vF_g rfl rfl).trans rfl
theorem n4_126m : nRow ct_126 = true := by decide +kernel
theorem n4_134m : nRow ct_134 = true := by decide +kernel
noncomputable def cpPum : Ctr := ([(1, 126, 0), (1, 7, 0)], ct_126.2)
theorem push_okm {Ev : Env9} {v u v' u' : Nat → Int} : CKI (Inv1m v u v' u') Ev 18 (27, cpPum) := by
  refine ctr_view2 (D := 3) (b := 18) (cc_126 (Ev := Ev)) (by decide) (fun vs h => ?_) (fun M h => h.1) (fun vs M h1 _ hT hI => ?_)
  · obtain rfl := as2 (a := 126) (b := 7) h
    exact ⟨⟨⟨rfl, by decide⟩, ⟨7, rfl, by decide, by decide +kernel⟩, trivial⟩, wl2m⟩
  · obtain rfl := as2 (a := 126) (b := 7) h1
    obtain ⟨k2, k3, -⟩ := bd_W hT (show 7 ∈ W9m by decide)
    obtain ⟨n8, c8⟩ := cntHm hT
    obtain ⟨g1, g, e, hc, hg, -, -⟩ := v_pushSm (D := 0) n8 (f0 := rN M) c8 k2 k3
    rw [vup_id rfl] at e hc
    exact ⟨_, _, g, e, fun M' hT' hI' hf hW => ⟨hI', JC_view (A := 128 + 39 * rN M 126 1) (g := g1) (WB_9 _ (W9_sm n8)) hT hT' (fun k hk h9 i => (hf k hk i).trans (hg k i h9)) (fun a b q _ => hc.2.2.2 a b q) hI.2.1 (fun _ => MB_cp hc (MB_rn hT (show 7 ∈ WB by decide) hI.2.1)), JR_nr n4_126m hW hI.2.2⟩⟩
noncomputable def cpPom : Ctr := ([(1, 126, 0), (1, 7, 0)], ct_134.2)
theorem pop_okm {Ev : Env9} {v u v' u' : Nat → Int} : CKI (Inv1m v u v' u') Ev 18 (28, cpPom) := by
  refine ctr_view2 (D := 3) (b := 18) (cc_134 (Ev := Ev)) (by decide) (fun vs h => ?_) (fun M h => h.1) (fun vs M h1 _ hT hI => ?_)
  · obtain rfl := as2 (a := 126) (b := 7) h
    exact ⟨⟨⟨rfl, by decide⟩, ⟨7, rfl, by decide, by decide +kernel⟩, trivial⟩, wl2m⟩
  · obtain rfl := as2 (a := 126) (b := 7) h1
    obtain ⟨n8, c8⟩ := cntHm hT
    by_cases hc0 : rN M 126 2 = 0
    · exact ⟨_, _, _, v_popZm (D := 2) hc0, fun M' hT' hI' hf hW => ⟨hI', JC_view (A := 7) (g := rN M) (by decide) hT hT' (fun k hk _ i => hf k hk i) (fun _ _ _ _ => rfl) hI.2.1 (fun q => MB_rn hT q hI.2.1), JR_nr n4_134m hW hI.2.2⟩⟩
    · obtain ⟨s, hs, es⟩ : ∃ s, s < 8 ∧ rN M 126 1 = (s + 1) % 8 := ⟨(rN M 126 1 + 7) % 8, by omega, by omega⟩
      have hsW := W9_sm hs
      obtain ⟨k2, k3, -⟩ := bd_W hT (WB_9 _ hsW)
      obtain ⟨g1, g, e, hc, hg, -, -⟩ := v_popSm (D := 0) hs (f0 := rN M) (by omega) c8 k2 k3
      rw [vup_id es] at e hc
      have hn : 128 + 39 * s ≠ 126 := by omega
      have hB : MB (vup (rN M) 126 1 s) (128 + 39 * s) := MB_eq (fun a b hp => vup_ne (Or.inl (by have := W9_inm hp; omega))) (MB_rn hT hsW hI.2.1)
      exact ⟨_, _, g, e, fun M' hT' hI' hf hW => ⟨hI', JC_view (A := 7) (g := g1) (by decide) hT hT' (fun k hk h9 i => (hf k hk i).trans (hg k i h9)) (fun a b q q9 => (hc.2.2.2 a b q).trans (vup_ne (Or.inl q9))) hI.2.1 (fun _ => MB_cp hc hB), JR_nr n4_134m hW hI.2.2⟩⟩
/-! a day's work, a fair's contracts, a contract's end: in world 7, in the draft -/
theorem n4_99 : nRow ct_99 = true := by decide +kernel
theorem n4_94 : nRow ct_94 = true := by decide +kernel
theorem n4_100 : nRow ct_100 = true := by decide +kernel
noncomputable def wk7 : Ctr := ([(1, 7, 0)], ct_99.2)
noncomputable def wk46 : Ctr := ([(1, 46, 0)], ct_99.2)
theorem wl1 {a : Nat} : WL [vR a] := wl_k (v := vR a) trivial vwl_0
theorem wk7_ok {Ev : Env9} {v u v' u' : Nat → Int} : CKI (Inv1m v u v' u') Ev 18 (88, wk7) := by
  refine ctr_view2 (D := 2) (b := 18) (cc_99 (Ev := Ev)) (by decide) (fun vs h => ?_) (fun M h => h.1) (fun vs M h1 _ hT hI => ?_)
  · obtain rfl := as1 (a := 7) h
    exact ⟨⟨⟨7, rfl, by decide, by decide +kernel⟩, trivial⟩, wl1⟩
  · obtain rfl := as1 (a := 7) h1
    obtain ⟨m1, m2, m3, m4⟩ := MB_rn hT (show 7 ∈ WB by decide) hI.2.1
    obtain ⟨g, e, hw⟩ := v_work_7 (D := 0) m2 m1 m4
    have e2 : g 7 2 = rN M 7 2 := hw.2 7 2 (Or.inr (Or.inr (Or.inl ⟨rfl, by decide⟩)))
    have e3 : g 7 3 = rN M 7 3 := hw.2 7 3 (Or.inr (Or.inr (Or.inl ⟨rfl, by decide⟩)))
    exact ⟨_, _, g, e, fun M' hT' hI' hf hW => ⟨hI', JC_view (A := 7) (by decide) hT hT' (fun k hk _ i => hf k hk i) (fun a b q _ => hw.2 a b (q.elim Or.inl (fun q => Or.inr (Or.inl q)))) hI.2.1 (fun _ => ⟨by omega, by omega, hw.1 m3, stfW_fr m2 hw.2 m4⟩), JR_nr n4_99 hW hI.2.2⟩⟩
theorem wk46_ok {Ev : Env9} {v u v' u' : Nat → Int} : CKI (Inv1m v u v' u') Ev 18 (88, wk46) := by
  refine ctr_view2 (D := 2) (b := 18) (cc_99 (Ev := Ev)) (by decide) (fun vs h => ?_) (fun M h => h.1) (fun vs M h1 _ hT hI => ?_)
  · obtain rfl := as1 (a := 46) h
    exact ⟨⟨⟨46, rfl, by decide, by decide +kernel⟩, trivial⟩, wl1⟩
  · obtain rfl := as1 (a := 46) h1
    obtain ⟨k2, k3, kb, kx, -⟩ := bd_W hT (show 46 ∈ W9m by decide)
    obtain ⟨g, e, hw⟩ := v_work_46 (D := 0) k3 k2 (fun v hv => ⟨kb v (by omega), fun i hi => kx v (by omega) i (by have := kb v (by omega); omega)⟩)
    exact ⟨_, _, g, e, fun M' hT' hI' hf hW => ⟨hI', JC_view (A := 46) (by decide) hT hT' (fun k hk _ i => hf k hk i) (fun a b q _ => hw a b (q.elim Or.inl (fun q => Or.inr (Or.inl q)))) hI.2.1 (fun q => absurd q (by decide)), JR_nr n4_99 hW hI.2.2⟩⟩
theorem rn442 {M : Mem} (hT : TI kd0 sh0 rt0 bd0 M) (i : Nat) : rN M 442 i < 4294967296 := by
  obtain ⟨q, h1⟩ := s24
  exact (rn_arr hT (by decide) h1).2
theorem bal_same9 {f g : Vw} {A : Nat} (hb : Bal f A) (h : ∀ i, i = 2 ∨ i = 3 ∨ (7 ≤ i ∧ i ≤ 10) → g A i = f A i) (hp : ∀ v, v < f A 3 → g (A + 15 + 3 * v) 4 = f (A + 15 + 3 * v) 4) (hs : ∀ i, i < f A 2 → g (A + 3 + i) 5 = f (A + 3 + i) 5) : Bal g A := by
  unfold Bal blL blR
  rw [h 7 (by omega), h 8 (by omega), h 9 (by omega), h 10 (by omega), h 2 (by omega), h 3 (by omega), smN_eq (f A 3) hp, smN_eq (f A 2) hs]
  exact hb
/-- a world whose contracts changed -/
theorem MB_kp {A : Nat} {f g : Vw} (h : KpS A f g) (hm : MB f A) : MB g A := by
  obtain ⟨a, b, c, d⟩ := hm
  have e2 := frS_A h.2.2 (b := 2) (by decide) (by decide)
  have e3 := frS_A h.2.2 (b := 3) (by decide) (by decide)
  refine ⟨by omega, by omega, ?_, h.2.1 d⟩
  refine bal_same9 c (fun i hi => frS_A h.2.2 (by omega) (by omega)) (fun v hv => h.2.2 _ _ (Or.inr (Or.inr (Or.inr (Or.inr ⟨v, by omega, Or.inl ⟨rfl, by decide⟩⟩))))) (fun e he => h.2.2 _ _ (Or.inr (Or.inr (Or.inr (Or.inl ⟨by omega, by omega, by decide, by decide⟩)))))
noncomputable def sg7 : Ctr := ([(1, 440, 0), (1, 7, 0)], ct_94.2)
theorem sg7_ok {Ev : Env9} {v u v' u' : Nat → Int} : CKI (Inv1m v u v' u') Ev 18 (38, sg7) := by
  refine ctr_view2 (D := 3) (b := 18) (cc_94 (Ev := Ev)) (by decide) (fun vs h => ?_) (fun M h => h.1) (fun vs M h1 _ hT hI => ?_)
  · obtain rfl := as2 (a := 440) (b := 7) h
    exact ⟨⟨⟨rfl, by decide⟩, ⟨7, rfl, by decide, by decide +kernel⟩, trivial⟩, wl2m⟩
  · obtain rfl := as2 (a := 440) (b := 7) h1
    obtain ⟨k2, k3, kb, -⟩ := bd_W hT (show 7 ∈ W9m by decide)
    obtain ⟨c, g, e, hk⟩ := v_sign_7 (D := 0) k2 k3 kb (fun i _ => rn442 hT i)
    exact ⟨_, _, g, e, fun M' hT' hI' hf hW => ⟨hI', JC_view (A := 7) (by decide) hT hT' (fun k hk _ i => hf k hk i) (fun a b q _ => hk.2.2 a b (q.elim Or.inl (fun q => Or.inr (Or.inl q)))) hI.2.1 (fun _ => MB_kp hk (MB_rn hT (show 7 ∈ WB by decide) hI.2.1)), JR_nr n4_94 hW hI.2.2⟩⟩
noncomputable def ec7 : Ctr := ([(1, 7, 0), (0, 0, 11)], ct_100.2)
theorem ec7_ok {Ev : Env9} {v u v' u' : Nat → Int} : CKI (Inv1m v u v' u') Ev 9 (86, ec7) := by
  refine ctr_view2 (D := 2) (b := 9) (cc_100 (Ev := Ev)) (by decide) (fun vs h => ?_) (fun M h => h.1) (fun vs M h1 _ hT hI => ?_)
  · obtain ⟨x, rfl, x1, x2, x3⟩ := as3 (a := 7) h
    exact ⟨⟨⟨7, rfl, by decide, by decide +kernel⟩, ⟨x, rfl, x1, x2, x3⟩, trivial⟩, wl_k (v := vR 7) trivial (wl_k (v := vI x) x1 vwl_0)⟩
  · obtain ⟨x, rfl, x1, x2, x3⟩ := as3 (a := 7) h1
    have hx := sg_nn x1 x2 x3
    have hx12 : x < 12 := by omega
    obtain ⟨k2, k3, kb, kx, ke⟩ := bd_W hT (show 7 ∈ W9m by decide)
    obtain ⟨g, e, g1, g2⟩ := v_endC_7 (D := 0) hx12 (ke x hx12) kb (fun v hv i hi => by have := kx v hv i hi; omega)
    have hk := endC_R_7 hx12 (ke x hx12) k3 kb g1 g2
    exact ⟨_, _, g, e, fun M' hT' hI' hf hW => ⟨hI', JC_view (A := 7) (by decide) hT hT' (fun k hk _ i => hf k hk i) (fun a b q _ => hk.2.2 a b (q.elim Or.inl (fun q => Or.inr (Or.inl q)))) hI.2.1 (fun _ => MB_kp hk (MB_rn hT (show 7 ∈ WB by decide) hI.2.1)), JR_nr n4_100 hW hI.2.2⟩⟩
noncomputable def sg46 : Ctr := ([(1, 440, 0), (1, 46, 0)], ct_94.2)
theorem sg46_ok {Ev : Env9} {v u v' u' : Nat → Int} : CKI (Inv1m v u v' u') Ev 18 (38, sg46) := by
  refine ctr_view2 (D := 3) (b := 18) (cc_94 (Ev := Ev)) (by decide) (fun vs h => ?_) (fun M h => h.1) (fun vs M h1 _ hT hI => ?_)
  · obtain rfl := as2 (a := 440) (b := 46) h
    exact ⟨⟨⟨rfl, by decide⟩, ⟨46, rfl, by decide, by decide +kernel⟩, trivial⟩, wl2m⟩
  · obtain rfl := as2 (a := 440) (b := 46) h1
    obtain ⟨k2, k3, kb, -⟩ := bd_W hT (show 46 ∈ W9m by decide)
    obtain ⟨c, g, e, hk⟩ := v_sign_46 (D := 0) k2 k3 kb (fun i _ => rn442 hT i)
    exact ⟨_, _, g, e, fun M' hT' hI' hf hW => ⟨hI', JC_view (A := 46) (by decide) hT hT' (fun k hk _ i => hf k hk i) (fun a b q _ => hk.2.2 a b (q.elim Or.inl (fun q => Or.inr (Or.inl q)))) hI.2.1 (fun q => absurd q (by decide)), JR_nr n4_94 hW hI.2.2⟩⟩
noncomputable def ec46 : Ctr := ([(1, 46, 0), (0, 0, 11)], ct_100.2)
theorem ec46_ok {Ev : Env9} {v u v' u' : Nat → Int} : CKI (Inv1m v u v' u') Ev 9 (86, ec46) := by
  refine ctr_view2 (D := 2) (b := 9) (cc_100 (Ev := Ev)) (by decide) (fun vs h => ?_) (fun M h => h.1) (fun vs M h1 _ hT hI => ?_)
  · obtain ⟨x, rfl, x1, x2, x3⟩ := as3 (a := 46) h
    exact ⟨⟨⟨46, rfl, by decide, by decide +kernel⟩, ⟨x, rfl, x1, x2, x3⟩, trivial⟩, wl_k (v := vR 46) trivial (wl_k (v := vI x) x1 vwl_0)⟩
  · obtain ⟨x, rfl, x1, x2, x3⟩ := as3 (a := 46) h1
    have hx := sg_nn x1 x2 x3
    have hx12 : x < 12 := by omega
    obtain ⟨k2, k3, kb, kx, ke⟩ := bd_W hT (show 46 ∈ W9m by decide)
    obtain ⟨g, e, g1, g2⟩ := v_endC_46 (D := 0) hx12 (ke x hx12) kb (fun v hv i hi => by have := kx v hv i hi; omega)
    have hk := endC_R_46 hx12 (ke x hx12) k3 kb g1 g2
    exact ⟨_, _, g, e, fun M' hT' hI' hf hW => ⟨hI', JC_view (A := 46) (by decide) hT hT' (fun k hk _ i => hf k hk i) (fun a b q _ => hk.2.2 a b (q.elim Or.inl (fun q => Or.inr (Or.inl q)))) hI.2.1 (fun q => absurd q (by decide)), JR_nr n4_100 hW hI.2.2⟩⟩
