/-! one line of a text: it goes forward -/
noncomputable def mdSt : MDT := (2, nb_X11_statement, [])
theorem mdSt_ok : MDOK bo9 251 mdSt := mo_X11_statement rfl _
noncomputable def s7 (f : List Fct) : SPt := ([some (1, 452, 0), none], f, [])
noncomputable def sS (f : List Fct) : SPt := ([some (1, 452, 0), none], f ++ [fM 17 0 900, fM 18 0 900, fM 19 0 900, fM 20 0 0], [sBW, sBA 0 0])
noncomputable def sEr : SPt := s7 [fM 17 0 900, fM 20 1 4]
noncomputable def sOk : SPt := s7 [fM 17 0 900, fM 20 0 0]
noncomputable def wSt : Wrg := (31, 339, 626) :: ct_275.2.2.2.1
noncomputable def wSe : Wrg := ct_256.2.2.2.1
noncomputable def wSv : Wrg := ct_264.2.2.2.1
noncomputable def wTe : Wrg := [(13, 17, 21), (31, 339, 626)]
noncomputable def clSe : List (Nat × Ctr) := [(231, ctSe 28), (231, ctSe 29), (231, ctSe 30)]
theorem chTS0 : xseg kd0 sh0 rt0 bd0 un0 (inW [(13, 17, 19)]) PRA MT0 (ctL clSe) 0 mdSt [(1, [sS []]), (3, [sS []]), (5, [sS []]), (6, [sS []])] [] 1000000 0 (spI 2 [(1, 452, 0)], [fM 17 0 900, fM 20 0 0], []) = true := by decide +kernel
noncomputable def chTS1 (c : Nat) : Bool := xseg kd0 sh0 rt0 bd0 un0 (inW wSe) PR0 MT0 (ctL tl_echo) 12 mdSt [(7, sEr :: yif (Nat.blt c 12) [s7 [k31 0 ((c : Int) + 1) ((c : Int) + 1), fM 17 0 900, fM 20 0 0]])] [] 1000000 1 (sS [k31 0 c c])
noncomputable def chTS3 (c : Nat) : Bool := xseg kd0 sh0 rt0 bd0 un0 (inW wSv) PR0 MT0 (ctL tl_valley) 12 mdSt [(7, sEr :: yif (Nat.blt c 8) [s7 [k31 1 ((c : Int) + 1) ((c : Int) + 1), fM 17 0 900, fM 20 0 0]])] [] 1000000 3 (sS [k31 1 c c])
theorem chTS1_all : allN 13 chTS1 = true := by decide +kernel
theorem chTS3_all : allN 9 chTS3 = true := by decide +kernel
theorem chTS5 : xseg kd0 sh0 rt0 bd0 un0 (inW wTe) PRA MT0 (ctL [(250, ctTl)]) 0 mdSt [(7, [sOk, sEr])] [] 1000000 5 (sS []) = true := by decide +kernel
theorem chTS6 : xseg kd0 sh0 rt0 bd0 un0 (inW [(13, 17, 21)]) PR0 MT0 (ctL [(229, ct_156)]) 4 mdSt [(7, [sEr])] [] 1000000 6 (sS []) = true := by decide +kernel
theorem chTS7e : xseg kd0 sh0 rt0 bd0 un0 (inW [(13, 17, 21)]) PR0 MT0 CT9 4 mdSt [] [((1, 0), (1, 0, 0), [fM 17 0 900, fM 20 1 4], [])] 1000000 7 sEr = true := by decide +kernel
theorem bK12 : bdAt 453 0 0 12 = true := by decide +kernel
theorem bV8 : bdAt 453 1 0 8 = true := by decide +kernel
theorem wS_a : ywsub (inW wSt) [(13, 17, 21)] = true := by decide +kernel
theorem wS_b : ywsub (inW wSt) [(13, 17, 19)] = true := by decide +kernel
theorem wS_e : ywsub (inW wSt) wSe = true := by decide +kernel
theorem wS_v : ywsub (inW wSt) wSv = true := by decide +kernel
theorem wS_t : ywsub (inW wSt) wTe = true := by decide +kernel
theorem kv_e : inW wSe 31 ((1 : Nat) : Int) = false := by decide +kernel
theorem kv_v : inW wSv 31 ((0 : Nat) : Int) = false := by decide +kernel
theorem kv_t : inW wTe 31 ((0 : Nat) : Int) = false := by decide +kernel
theorem kv_u : inW wTe 31 ((1 : Nat) : Int) = false := by decide +kernel
theorem kv_a : inW [(13, 17, 21)] 31 ((0 : Nat) : Int) = false := by decide +kernel
theorem kv_b : inW [(13, 17, 21)] 31 ((1 : Nat) : Int) = false := by decide +kernel
theorem kv_c : inW [(13, 17, 19)] 31 ((0 : Nat) : Int) = false := by decide +kernel
theorem kv_d : inW [(13, 17, 19)] 31 ((1 : Nat) : Int) = false := by decide +kernel
theorem kd_s : kd0 453 = 31 := kd_n 453 31 (by decide +kernel)
theorem fr_s {w : Wrg} {i : Nat} (hw : inW w 31 ((i : Nat) : Int) = false) {M M' : Mem} (h : Fr kd0 (inW w) M M') : rdI M' 453 i = rdI M 453 i := h 453 (by decide) i (by rw [kd_s]; exact hw)
def StE (M M' : Mem) : Prop := PrFa kd0 [] [fM 17 0 901, fM 20 1 4] M' ∨ (PrFa kd0 [] [fM 17 0 900, fM 20 0 0] M' ∧ (rdI M' 453 0 + rdI M' 453 1 = rdI M 453 0 + rdI M 453 1 + 1 ∨ (rdI M' 453 0 = rdI M 453 0 ∧ rdI M' 453 1 = rdI M 453 1 ∧ rdI M 452 17 + 1 ≤ rdI M' 452 17)))
def StR (Ev : Env9) (M : Mem) (r : Res) : Prop := r.1 = (1, 0) ∧ r.2.1 = Ev ∧ r.2.2.2.2.2.2.1 = 466 ∧ TI kd0 sh0 rt0 bd0 r.2.2.2.2.2.1 ∧ Inv0 r.2.2.2.2.2.1 ∧ Fr kd0 (inW wSt) M r.2.2.2.2.2.1 ∧ StE M r.2.2.2.2.2.1
def St7 (M M7 : Mem) (L : List AV) : Prop := SpOK kd0 sEr L M7 ∨ (SpOK kd0 sOk L M7 ∧ (rdI M7 453 0 + rdI M7 453 1 = rdI M 453 0 + rdI M 453 1 + 1 ∨ (rdI M7 453 0 = rdI M 453 0 ∧ rdI M7 453 1 = rdI M 453 1 ∧ rdI M 452 17 ≤ rdI M7 452 17)))
theorem st7A {a b c d e f : Int} (h1 : e = a) (h2 : f = b) (h : a + b = c + d + 1) : e + f = c + d + 1 := by omega
theorem st7C {n : Nat} {b : Int} (h : (n : Int) + 1 ≤ b) : 0 ≤ b := by omega
theorem st7B {a b c : Int} (h1 : a ≤ b) (h2 : b + 1 ≤ c) : a + 1 ≤ c := by omega
theorem from7 {Ev : Env9} {k' d : Nat} {ct : TrT Blk d} (hk : 24 ≤ k') (hmC : MdC mdSt d ct) {M : Mem} {f : Nat} (hf : 1000000 ≤ f) {L : List AV} {M7 : Mem} (h : St7 M M7 L) (hT : TI kd0 sh0 rt0 bd0 M7) (hI : Inv0 M7) (hFr : Fr kd0 (inW wSt) M M7) : OKo (runF (runM k') d ct f 7 Ev 466 0 L [] M7) (StR Ev M) := by
  have hs := ywsub_ok (Wp := inW wSt) wS_a
  have hk4 : 4 ≤ k' := by omega
  have hk20 : 20 ≤ k' := by omega
  rcases h with h | ⟨h, h2⟩
  · refine seg1 (C := 1000000) (F := 0) hu0 hang_0 (cs9 hang_0 hR9 hMT9 hk4) hmC chTS7e hf h hT hI (fun q q1 => by cases q1) (fun r r1 r2 r3 q => ?_)
    obtain ⟨w, hw, hw1⟩ := q
    obtain rfl := List.mem_singleton.mp hw
    have g5 := fact_at hw1.2.2.1 (c := 452) (i := 17) (lo := 0) (hi := 900) List.mem_cons_self
    exact ⟨hw1.1, r1, r2, r3.1, r3.2.1, fr_tr hFr r3.2.2 hs, Or.inl (prFa_app (l := [fM 17 0 901]) (prFa_1 (c := 452) (i := 17) (by decide) g5.1 (Int.le_trans g5.2 (by decide))) (fun a ha => hw1.2.2.1 a (List.mem_cons_of_mem _ ha)))⟩
  · have g := fact_at h.2.1 (c := 452) (i := 17) (lo := 0) (hi := 900) List.mem_cons_self
    obtain ⟨α, hα, hαe⟩ : ∃ α : Nat, α < 901 ∧ rdI M7 452 17 = (α : Int) := ⟨(rdI M7 452 17).toNat, by omega, by omega⟩
    obtain ⟨f', rfl⟩ : ∃ f', f = f' + 1 := ⟨f - 1, by omega⟩
    obtain ⟨L0, hL⟩ : ∃ x, L = [vR 452, x] := match L, h.1 with
      | [a, x], hl => ⟨x, by rw [show a = vR 452 from hl.1.1]⟩
    subst hL
    obtain ⟨r, e, r1, r2, r3, r4, r5, w, hw, hw1⟩ := semi_ok (Ev := Ev) hα k' hk20 [vR 452] M7 ⟨⟨rfl, by decide⟩, trivial⟩ (prFa_app (l := [fM 17 α 900]) (prFa_1 (c := 452) (i := 17) (by decide) (Int.le_of_eq hαe.symm) g.2) (fun a ha => h.2.1 a (List.mem_cons_of_mem _ ha))) (fun q hq => by cases hq) hT hI
    have hb : tget d ct 7 = ([op_ld (fP 2) 0, op_call (gN 14) 234 1 0 0], tm_vret 0) := hmC 7 _ rfl
    obtain ⟨c0, E', v, S', L', M', n', z'⟩ := r
    have q1 : E' = Ev := r1
    have q2 : n' = 466 := r2
    have q3 : c0 = (1, 0) := by
      rcases List.mem_cons.mp hw with z | z
      · subst z; exact hw1.1
      · obtain rfl := List.mem_singleton.mp z; exact hw1.1
    subst q1
    subst q2
    subst q3
    have e0 : rdI M' 453 0 = rdI M7 453 0 := fr_s kv_a r5
    have e1 : rdI M' 453 1 = rdI M7 453 1 := fr_s kv_b r5
    refine ⟨((1, 0), E', vW 3, [], [], M', 466, 0), ?_, rfl, rfl, rfl, r3, r4, fr_tr hFr r5 hs, ?_⟩
    · rw [rF9 f' hb]
      exact (rb_ldX rfl).trans ((rb_callV (as := [vR 452]) (rest := []) rfl rfl rfl (by decide) (gv_ofX hT (by decide) sh452X) e).trans rfl)
    · rcases List.mem_cons.mp hw with z | z
      · subst z
        have g5 := fact_at hw1.2.2.1 (c := 452) (i := 17) (lo := (α : Int) + 1) (hi := 900) List.mem_cons_self
        refine Or.inr ⟨prFa_app (l := [fM 17 0 900]) (prFa_1 (c := 452) (i := 17) (by decide) (st7C g5.1) g5.2) (fun a ha => hw1.2.2.1 a (List.mem_cons_of_mem _ ha)), ?_⟩
        rcases h2 with h2 | ⟨h2, h3, h4⟩
        · exact Or.inl (st7A e0 e1 h2)
        · exact Or.inr ⟨e0.trans h2, e1.trans h3, st7B h4 (by rw [hαe]; exact g5.1)⟩
      · obtain rfl := List.mem_singleton.mp z
        have g5 := fact_at hw1.2.2.1 (c := 452) (i := 17) (lo := (α : Int) + 1) (hi := 901) List.mem_cons_self
        exact Or.inl (prFa_app (l := [fM 17 0 901]) (prFa_1 (c := 452) (i := 17) (by decide) (st7C g5.1) g5.2) (fun a ha => hw1.2.2.1 a (List.mem_cons_of_mem _ ha)))
theorem stA {a b c d : Int} {n : Nat} (h1 : a = c) (h2 : b = d) (h3 : c = (n : Int)) {x y : Int} (hx : x = (n : Int) + 1) (hy : y = b) : x + y = a + d + 1 := by omega
theorem stmt_ok {Ev : Env9} (h0 : CK Ev 40 (240, ct_249)) (h1 : CK Ev 40 (240, ct_257)) (he : ∀ y, ∀ ct ∈ ctL tl_echo y, ∀ k, 40 ≤ k → CtrOK kd0 sh0 rt0 bd0 Inv0 Ev (runM k) y ct) (hv : ∀ y, ∀ ct ∈ ctL tl_valley y, ∀ k, 40 ≤ k → CtrOK kd0 sh0 rt0 bd0 Inv0 Ev (runM k) y ct) (hn : CK Ev 40 (229, ct_156)) {k : Nat} (hk : 90 ≤ k) {M : Mem} (hT : TI kd0 sh0 rt0 bd0 M) (hI : Inv0 M) (hf : PrFa kd0 [] [fM 17 0 900, fM 20 0 0] M) : OKo (runM k 251 Ev 466 [vR 452] M) (StR Ev M) := by
  obtain ⟨k', rfl⟩ : ∃ k', k = k' + 1 := ⟨k - 1, by omega⟩
  have hk89 : 89 ≤ k' := by omega
  obtain ⟨d, ct, e1, e2⟩ := mdSt_ok
  have hmC : MdC mdSt d ct := e1
  rw [hR9, e2, show Nat.ble (flatL [vR 452]).length mdSt.1 = true from rfl, gdt]
  have hL : lOK kd0 (spI 2 [(1, 452, 0)]) (iniL 2 [vR 452]) := spI_ok (n := 2) (l := [(1, 452, 0)]) ⟨⟨rfl, by decide⟩, trivial⟩
  have hA0 : ∀ {a : Int}, allC (CA a Ev 20) clSe := And.intro se1_A (And.intro se2_A (And.intro se3_A trivial))
  refine seg1 (posts := []) (C := 1000000) (F := 9000000) hu0 hang_A (csL (b := 20) (l := clSe) hang_A (caL_ok hA0) (Nat.le_trans (nle rfl) hk89)) hmC chTS0 (nle rfl) ⟨hL, hf, fun q hq => by cases hq⟩ hT (⟨hI, Int.le_refl _⟩ : InvA (rdI M 452 17) M) (fun q q1 p' q2 f' q3 L' M' q4 q5 => ?_) (fun r _ _ _ q => by obtain ⟨p, hp, _⟩ := q; cases hp)
  have hFb := fr_tr (W := inW wSt) (M0 := M) (M := M) (fun _ _ _ _ => rfl) q5.2.2 (ywsub_ok (Wp := inW wSt) wS_b)
  have eK := fr_s kv_c q5.2.2
  have eV := fr_s kv_d q5.2.2
  have f3 : 2000000 ≤ f' := Nat.le_trans (nle rfl) q3
  have n12 : 40 + 12 ≤ k' := Nat.le_trans (nle rfl) hk89
  have n4 : 40 + 4 ≤ k' := Nat.le_trans (nle rfl) hk89
  have n24 : 24 ≤ k' := Nat.le_trans (nle rfl) hk89
  have n60 : 60 + 0 ≤ k' := Nat.le_trans (nle rfl) hk89
  rcases List.mem_cons.mp q1 with z | q1
  · subst z
    obtain rfl := List.mem_singleton.mp q2
    have hb := bdAt_ok bK12 q5.1
    obtain ⟨c, hc, hce⟩ : ∃ c : Nat, c < 13 ∧ rdI M' 453 0 = (c : Int) := ⟨(rdI M' 453 0).toNat, by omega, by omega⟩
    refine seg1 (posts := []) (C := 1000000) (F := 1000000) hu0 hang_0 (csL (b := 40) (l := tl_echo) hang_0 he n12) hmC (allN_ok chTS1_all c hc) f3 ⟨q4.1, prFa_app (l := [k31 0 c c]) (prFa_1 (c := 453) (i := 0) (by decide) (Int.le_of_eq hce.symm) (Int.le_of_eq hce)) q4.2.1, q4.2.2⟩ q5.1 q5.2.1.1 (fun w w1 p2 w2 f2 w3 L2 M2 w4 w5 => ?_) (fun r _ _ _ q => by obtain ⟨p, hp, _⟩ := q; cases hp)
    obtain rfl := List.mem_singleton.mp w1
    refine from7 n24 hmC w3 ?_ w5.1 w5.2.1 (fr_tr hFb w5.2.2 (ywsub_ok (Wp := inW wSt) wS_e))
    rcases List.mem_cons.mp w2 with z | w2
    · subst z; exact Or.inl w4
    · obtain ⟨_, w2⟩ := yif_mem w2
      obtain rfl := List.mem_singleton.mp w2
      have g5 := fact_at w4.2.1 (c := 453) (i := 0) (lo := (c : Int) + 1) (hi := (c : Int) + 1) List.mem_cons_self
      refine Or.inr ⟨⟨w4.1, fun a ha => w4.2.1 a (List.mem_cons_of_mem _ ha), w4.2.2⟩, Or.inl ?_⟩
      have e5 := fr_s kv_e w5.2.2
      rw [e5, eV, ← eK, hce, Int.le_antisymm g5.2 g5.1]
      omega
  rcases List.mem_cons.mp q1 with z | q1
  · subst z
    obtain rfl := List.mem_singleton.mp q2
    have hb := bdAt_ok bV8 q5.1
    obtain ⟨c, hc, hce⟩ : ∃ c : Nat, c < 9 ∧ rdI M' 453 1 = (c : Int) := ⟨(rdI M' 453 1).toNat, by omega, by omega⟩
    refine seg1 (posts := []) (C := 1000000) (F := 1000000) hu0 hang_0 (csL (b := 40) (l := tl_valley) hang_0 hv n12) hmC (allN_ok chTS3_all c hc) f3 ⟨q4.1, prFa_app (l := [k31 1 c c]) (prFa_1 (c := 453) (i := 1) (by decide) (Int.le_of_eq hce.symm) (Int.le_of_eq hce)) q4.2.1, q4.2.2⟩ q5.1 q5.2.1.1 (fun w w1 p2 w2 f2 w3 L2 M2 w4 w5 => ?_) (fun r _ _ _ q => by obtain ⟨p, hp, _⟩ := q; cases hp)
    obtain rfl := List.mem_singleton.mp w1
    refine from7 n24 hmC w3 ?_ w5.1 w5.2.1 (fr_tr hFb w5.2.2 (ywsub_ok (Wp := inW wSt) wS_v))
    rcases List.mem_cons.mp w2 with z | w2
    · subst z; exact Or.inl w4
    · obtain ⟨_, w2⟩ := yif_mem w2
      obtain rfl := List.mem_singleton.mp w2
      have g5 := fact_at w4.2.1 (c := 453) (i := 1) (lo := (c : Int) + 1) (hi := (c : Int) + 1) List.mem_cons_self
      refine Or.inr ⟨⟨w4.1, fun a ha => w4.2.1 a (List.mem_cons_of_mem _ ha), w4.2.2⟩, Or.inl ?_⟩
      have e5 := fr_s kv_v w5.2.2
      rw [e5, eK, ← eV, hce, Int.le_antisymm g5.2 g5.1]
      omega
  rcases List.mem_cons.mp q1 with z | q1
  · subst z
    obtain rfl := List.mem_singleton.mp q2
    refine seg1 (posts := []) (C := 1000000) (F := 1000000) hu0 hang_A (cs1 (b := 60) hang_A (tl_A h0 h1) n60) hmC chTS5 f3 q4 q5.1 q5.2.1 (fun w w1 p2 w2 f2 w3 L2 M2 w4 w5 => ?_) (fun r _ _ _ q => by obtain ⟨p, hp, _⟩ := q; cases hp)
    obtain rfl := List.mem_singleton.mp w1
    refine from7 n24 hmC w3 ?_ w5.1 w5.2.1.1 (fr_tr hFb w5.2.2 (ywsub_ok (Wp := inW wSt) wS_t))
    rcases List.mem_cons.mp w2 with z | w2
    · subst z
      exact Or.inr ⟨w4, Or.inr ⟨(fr_s kv_t w5.2.2).trans eK, (fr_s kv_u w5.2.2).trans eV, w5.2.1.2⟩⟩
    · obtain rfl := List.mem_singleton.mp w2
      exact Or.inl w4
  · obtain rfl := List.mem_singleton.mp q1
    obtain rfl := List.mem_singleton.mp q2
    refine seg1 (posts := []) (C := 1000000) (F := 1000000) hu0 hang_0 (cs1 (b := 40) hang_0 hn n4) hmC chTS6 f3 q4 q5.1 q5.2.1.1 (fun w w1 p2 w2 f2 w3 L2 M2 w4 w5 => ?_) (fun r _ _ _ q => by obtain ⟨p, hp, _⟩ := q; cases hp)
    obtain rfl := List.mem_singleton.mp w1
    obtain rfl := List.mem_singleton.mp w2
    exact from7 n24 hmC w3 (Or.inl w4) w5.1 w5.2.1 (fr_tr hFb w5.2.2 (ywsub_ok (Wp := inW wSt) wS_a))
