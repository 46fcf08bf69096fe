/-! append and truncate: class and reference one after the other, over the same ghosts -/
noncomputable def WpT : Nat → Int → Bool := fun _ _ => true
noncomputable def xA : XC := xM kd0 sh0 rt0 bd0 un0 WpT pr9 MT0 CT9 12
theorem CS_T {M0 : Mem} {Ev : Env9} : CS kd0 sh0 rt0 bd0 WpT T9 M0 Ev (runM 200) xA := xM_ok hu0 hang_T hR9 hMT9 (CT := CT9) (b := 0) (fun _ ct h => nomatch (show ct ∈ ([] : List Ctr) from h)) 12 188 (Nat.zero_le _)
theorem gm_T {M : Mem} (hT : TI kd0 sh0 rt0 bd0 M) : GM kd0 sh0 rt0 bd0 WpT T9 M M := ⟨hT, trivial, fun _ _ _ _ => rfl⟩
noncomputable def ysm (x y : Aff) : Bool := Bool.rec false (ieq x.2.2 y.2.2) (ysame x y)
theorem ysm_ok {G : List Int} {x y : Aff} {a b : Int} (h : ysm x y = true) (ha : yev G x = some a) (hb : yev G y = some b) : a = b := by
  obtain ⟨h1, h2⟩ := band (show (Bool.rec false (ieq x.2.2 y.2.2) (ysame x y) : Bool) = true from h)
  have h3 := ysame_ok h1 ha hb
  have h4 := ieq_iff.mp h2
  omega
noncomputable def lenE (H : OV) : Bool := match yfd (.inl 1) (0, 0, ((1 : Nat) : Int)) H, yfd (.inl 452) (0, 0, ((16 : Nat) : Int)) H with | some u, some w => ysm u w | _, _ => false
theorem lenE_ok {G : List Int} {H : OV} {M : Mem} (h : lenE H = true) (hH : ovl kd0 G H M) : rdI M 1 1 = rdI M 452 16 := by
  unfold lenE at h
  cases h1 : yfd (.inl 1) (0, 0, ((1 : Nat) : Int)) H with
  | none => rw [h1] at h; cases h
  | some u =>
    cases h2 : yfd (.inl 452) (0, 0, ((16 : Nat) : Int)) H with
    | none => rw [h1, h2] at h; cases h
    | some w =>
      rw [h1, h2] at h
      exact ysm_ok h (ov_at hH h1) (ov_at hH h2)
noncomputable def xchk (y : Nat) (as : List SV) (E : YE) (H : OV) (f : Out → Bool) : Bool := match xA y E as H with | some os => allL os f | none => false
theorem xchk_some {y : Nat} {as : List SV} {E : YE} {H : OV} {f : Out → Bool} (h : xchk y as E H f = true) : ∃ os, xA y E as H = some os ∧ allL os f = true := by
  unfold xchk at h
  cases hx : xA y E as H with
  | none => rw [hx] at h; cases h
  | some os => rw [hx] at h; exact ⟨os, rfl, h⟩
/-- what is known at an end -/
def OutQ (G : List Int) (o : Out) (r : Res) : Prop := yenv G o.2.1 ∧ ovl kd0 G o.2.2.2.1 r.2.2.2.2.2.1 ∧ TI kd0 sh0 rt0 bd0 r.2.2.2.2.2.1 ∧ r.1 = o.1 ∧ (r.1.1 = 0 → sv kd0 G o.2.2.1 r.2.2.1)
theorem xcall {y : Nat} {as : List SV} {E : YE} {H : OV} {f : Out → Bool} (h : xchk y as E H f = true) {Ev : Env9} {G : List Int} {vs : List AV} {M : Mem} (hT : TI kd0 sh0 rt0 bd0 M) (hE : yenv G E) (hs : svs kd0 G as vs) (hH : ovl kd0 G H M) : OKo (runM 200 y Ev 466 vs M) (fun r => ∃ o G', G <+: G' ∧ f o = true ∧ OutQ G' o r) := by
  obtain ⟨os, hx, ho⟩ := xchk_some h
  refine CS_T (M0 := M) y E as H os hx G vs M _ hE hs hH (gm_T hT) (fun o hm => ?_)
  intro G' r p1 p2 p3 p4 p5 _ _ p8
  exact ⟨o, G', p1, allL_ok ho o hm, p2, p3, p4.1, p5, p8⟩
theorem oko_eq {o : OR} {P : Res → Prop} {r : Res} (h : OKo o P) (e : o = some [r]) : P r := by
  obtain ⟨r', e', h'⟩ := h
  rw [e] at e'
  cases e'
  exact h'
noncomputable def fullG : YG := (-2147483648, 2147483647, 0, 0, 0, 0)
theorem yok_full {G : List Int} (x : Nat) : yok G fullG (sg x) := ⟨sg_lo x, sg_hi x, fun h => Bool.noConfusion (show false = true from h)⟩
theorem yenv_9 : yenv [] [] := ⟨rfl, fun g e h => by simp at h⟩
theorem sv_R {G : List Int} {k : Nat} (hk : k < 466) : sv kd0 G (sR (.inl k)) (vR k) := ⟨k, rfl, hk, rfl⟩
theorem sv_I {G : List Int} {g x : Nat} (hx : x < 4294967296) (hg : G[g]? = some (sg x)) : sv kd0 G (sI (g, 1, 0)) (vI x) := ⟨x, rfl, hx, by rw [yev_gx hg, Int.one_mul, Int.add_zero]⟩
theorem tyL1 : ytyp kd0 sh0 1 ((1 : Nat) : Int) = true := by decide +kernel
theorem bdL1 : bd0 (kd0 1) ((1 : Nat) : Int) = (0, 900) := by decide +kernel
theorem lenM {M : Mem} (hT : TI kd0 sh0 rt0 bd0 M) : 0 ≤ rdI M 1 1 ∧ rdI M 1 1 ≤ 900 := by
  obtain ⟨-, i, h1, h2, h3⟩ := ytyp_ok hT tyL1
  have e : i = 1 := by omega
  subst e
  rw [bdL1] at h2 h3
  exact ⟨h2, h3⟩
/-! truncate -/
noncomputable def H0T (q : Aff) : OV := [((.inl 1, (0, 0, ((1 : Nat) : Int))), q), ((.inl 452, (0, 0, ((16 : Nat) : Int))), q)]
theorem H0T_ok {G : List Int} {q : Aff} {M : Mem} (h1 : yev G q = some (rdI M 1 1)) (h2 : rdI M 1 1 = rdI M 452 16) : ovl kd0 G (H0T q) M := by
  intro h hm
  rcases List.mem_cons.mp hm with e | hm
  · subst e
    exact ⟨1, 1, ⟨by decide, rfl⟩, yev_c, h1⟩
  · rw [List.mem_singleton.mp hm]
    exact ⟨452, 16, ⟨by decide, rfl⟩, yev_c, by rw [← h2]; exact h1⟩
/-! two calls and thrown's, one after the other -/
noncomputable def fin3 (o1 o2 o3 : Out) : Bool := Bool.rec false (match o1.2.2.1, o2.2.2.1, o3.2.2.1 with
  | .inl q1, .inl q2, .inl q3 => Bool.rec false (Bool.rec false (Bool.rec true (match yfd (.inl 465) (0, 0, ((0 : Nat) : Int)) o3.2.2.2.1 with | some u => ysm u q2 | none => false) (ieq q1.2.2 0)) (ieq q1.2.1 0)) (ysm q3 q1)
  | _, _, _ => false) (lenE o3.2.2.2.1)
theorem fin3_ok {G1 G2 G3 : List Int} (g12 : G1 <+: G2) (g23 : G2 <+: G3) {o1 o2 o3 : Out} (h : fin3 o1 o2 o3 = true) {x1 x2 x3 : Nat} (h1 : sv kd0 G1 o1.2.2.1 (vI x1)) (h2 : sv kd0 G2 o2.2.2.1 (vI x2)) (h3 : sv kd0 G3 o3.2.2.1 (vI x3)) {M : Mem} (hH : ovl kd0 G3 o3.2.2.2.1 M) : rdI M 1 1 = rdI M 452 16 ∧ sg x3 = sg x1 ∧ (sg x1 = 0 → rdI M 465 0 = sg x2) := by
  obtain ⟨l1, h⟩ := band (show (Bool.rec false (match o1.2.2.1, o2.2.2.1, o3.2.2.1 with
    | .inl q1, .inl q2, .inl q3 => Bool.rec false (Bool.rec false (Bool.rec true (match yfd (.inl 465) (0, 0, ((0 : Nat) : Int)) o3.2.2.2.1 with | some u => ysm u q2 | none => false) (ieq q1.2.2 0)) (ieq q1.2.1 0)) (ysm q3 q1)
    | _, _, _ => false) (lenE o3.2.2.2.1) : Bool) = true from h)
  refine ⟨lenE_ok l1 hH, ?_⟩
  have h1 := sv_mono (g12.trans g23) h1
  have h2 := sv_mono g23 h2
  generalize o1.2.2.1 = a1 at h h1
  generalize o2.2.2.1 = a2 at h h2
  generalize o3.2.2.1 = a3 at h h3
  rcases a1 with q1 | a1
  · rcases a2 with q2 | a2
    · rcases a3 with q3 | a3
      · obtain ⟨y1, e1, -, v1⟩ := h1
        obtain ⟨y2, e2, -, v2⟩ := h2
        obtain ⟨y3, e3, -, v3⟩ := h3
        cases e1
        cases e2
        cases e3
        obtain ⟨c1, h⟩ := band (show (Bool.rec false (Bool.rec false (Bool.rec true (match yfd (.inl 465) (0, 0, ((0 : Nat) : Int)) o3.2.2.2.1 with | some u => ysm u q2 | none => false) (ieq q1.2.2 0)) (ieq q1.2.1 0)) (ysm q3 q1) : Bool) = true from h)
        refine ⟨ysm_ok c1 v3 v1, fun hz => ?_⟩
        obtain ⟨c2, h⟩ := band h
        have e0 : q1.2.1 = 0 := ieq_iff.mp c2
        rcases yev_some v1 with ⟨-, w⟩ | ⟨w, -⟩
        · rw [hz] at w
          rw [ieq_iff.mpr w.symm] at h
          cases hu : yfd (.inl 465) (0, 0, ((0 : Nat) : Int)) o3.2.2.2.1 with
          | none => rw [hu] at h; cases h
          | some u => rw [hu] at h; exact ysm_ok h (ov_at hH hu) v2
        · exact absurd e0 w
      · cases h
    · cases h
  · cases h
noncomputable def chk3 (y1 : Nat) (as1 : List SV) (y2 : Nat) (as2 : List SV) (E : YE) (H : OV) : Bool := xchk y1 as1 E H (fun o1 => xchk y2 as2 o1.2.1 o1.2.2.2.1 (fun o2 => Bool.rec false (xchk 173 [sR (.inl 452)] o2.2.1 o2.2.2.2.1 (fun o3 => fin3 o1 o2 o3)) (lenE o2.2.2.2.1)))
/-- the two calls, from a good memory: the lengths; thrown's answer, the class's answer -/
def Three (Ev : Env9) (y1 : Nat) (vs1 : List AV) (y2 : Nat) (vs2 : List AV) (M : Mem) : Prop := OKo (runM 200 y1 Ev 466 vs1 M) (fun r1 => OKo (runM 200 y2 Ev 466 vs2 r1.2.2.2.2.2.1) (fun r2 => rdI r2.2.2.2.2.2.1 1 1 = rdI r2.2.2.2.2.2.1 452 16 ∧ OKo (runM 200 173 Ev 466 [vR 452] r2.2.2.2.2.2.1) (fun r3 => ∀ x1 x2 x3, r1.1.1 = 0 → r2.1.1 = 0 → r3.1.1 = 0 → r1.2.2.1 = vI x1 → r2.2.2.1 = vI x2 → r3.2.2.1 = vI x3 → rdI r3.2.2.2.2.2.1 1 1 = rdI r3.2.2.2.2.2.1 452 16 ∧ sg x3 = sg x1 ∧ (sg x1 = 0 → rdI r3.2.2.2.2.2.1 465 0 = sg x2))))
theorem three_of {y1 : Nat} {as1 : List SV} {y2 : Nat} {as2 : List SV} {E0 : YE} {H0 : OV} (h : chk3 y1 as1 y2 as2 E0 H0 = true) {Ev : Env9} {G : List Int} {vs1 vs2 : List AV} {M : Mem} (hT : TI kd0 sh0 rt0 bd0 M) (hE : yenv G E0) (h1 : svs kd0 G as1 vs1) (h2 : svs kd0 G as2 vs2) (hH : ovl kd0 G H0 M) : Three Ev y1 vs1 y2 vs2 M := by
  obtain ⟨r1, e1, o1, G1, g1, f1, c1, c2, c3, c4, c5⟩ := xcall (Ev := Ev) (show xchk y1 as1 E0 H0 (fun o1 => xchk y2 as2 o1.2.1 o1.2.2.2.1 (fun o2 => Bool.rec false (xchk 173 [sR (.inl 452)] o2.2.1 o2.2.2.2.1 (fun o3 => fin3 o1 o2 o3)) (lenE o2.2.2.2.1))) = true from h) hT hE h1 hH
  refine ⟨r1, e1, ?_⟩
  obtain ⟨r2, e2, o2, G2, g2, f2, b1, b2, b3, b4, b5⟩ := xcall (Ev := Ev) f1 c3 c1 (svs_mono g1 h2) c2
  obtain ⟨f3, f4⟩ := band (show (Bool.rec false (xchk 173 [sR (.inl 452)] o2.2.1 o2.2.2.2.1 (fun o3 => fin3 o1 o2 o3)) (lenE o2.2.2.2.1) : Bool) = true from f2)
  refine ⟨r2, e2, lenE_ok f3 b2, ?_⟩
  obtain ⟨r3, e3, o3, G3, g3, f5, d1, d2, d3, d4, d5⟩ := xcall (Ev := Ev) f4 b3 b1 (show svs kd0 G2 [sR (.inl 452)] [vR 452] from ⟨sv_R (by decide), trivial⟩) b2
  refine ⟨r3, e3, fun x1 x2 x3 z1 z2 z3 w1 w2 w3 => ?_⟩
  exact fin3_ok g2 g3 f5 (by rw [← w1]; exact c5 z1) (by rw [← w2]; exact b5 z2) (by rw [← w3]; exact d5 z3) d2
/-! truncate: the length known -/
noncomputable def chT (c : Nat) : Bool := chk3 346 [sR (.inl 0), sI (0, 1, 0), sR (.inl 465)] 227 [sR (.inl 452), sI (0, 1, 0)] [fullG] (H0T (0, 0, (c : Int)))
theorem chT_0 : allN 30 (fun i => chT (0 + i)) = true := by decide +kernel
theorem chT_1 : allN 30 (fun i => chT (30 + i)) = true := by decide +kernel
theorem chT_2 : allN 30 (fun i => chT (60 + i)) = true := by decide +kernel
theorem chT_3 : allN 30 (fun i => chT (90 + i)) = true := by decide +kernel
theorem chT_4 : allN 30 (fun i => chT (120 + i)) = true := by decide +kernel
theorem chT_5 : allN 30 (fun i => chT (150 + i)) = true := by decide +kernel
theorem chT_6 : allN 30 (fun i => chT (180 + i)) = true := by decide +kernel
theorem chT_7 : allN 30 (fun i => chT (210 + i)) = true := by decide +kernel
theorem chT_8 : allN 30 (fun i => chT (240 + i)) = true := by decide +kernel
theorem chT_9 : allN 30 (fun i => chT (270 + i)) = true := by decide +kernel
theorem chT_10 : allN 30 (fun i => chT (300 + i)) = true := by decide +kernel
theorem chT_11 : allN 30 (fun i => chT (330 + i)) = true := by decide +kernel
theorem chT_12 : allN 30 (fun i => chT (360 + i)) = true := by decide +kernel
theorem chT_13 : allN 30 (fun i => chT (390 + i)) = true := by decide +kernel
theorem chT_14 : allN 30 (fun i => chT (420 + i)) = true := by decide +kernel
theorem chT_15 : allN 30 (fun i => chT (450 + i)) = true := by decide +kernel
theorem chT_16 : allN 30 (fun i => chT (480 + i)) = true := by decide +kernel
theorem chT_17 : allN 30 (fun i => chT (510 + i)) = true := by decide +kernel
theorem chT_18 : allN 30 (fun i => chT (540 + i)) = true := by decide +kernel
theorem chT_19 : allN 30 (fun i => chT (570 + i)) = true := by decide +kernel
theorem chT_20 : allN 30 (fun i => chT (600 + i)) = true := by decide +kernel
theorem chT_21 : allN 30 (fun i => chT (630 + i)) = true := by decide +kernel
theorem chT_22 : allN 30 (fun i => chT (660 + i)) = true := by decide +kernel
theorem chT_23 : allN 30 (fun i => chT (690 + i)) = true := by decide +kernel
theorem chT_24 : allN 30 (fun i => chT (720 + i)) = true := by decide +kernel
theorem chT_25 : allN 30 (fun i => chT (750 + i)) = true := by decide +kernel
theorem chT_26 : allN 30 (fun i => chT (780 + i)) = true := by decide +kernel
theorem chT_27 : allN 30 (fun i => chT (810 + i)) = true := by decide +kernel
theorem chT_28 : allN 30 (fun i => chT (840 + i)) = true := by decide +kernel
theorem chT_29 : allN 30 (fun i => chT (870 + i)) = true := by decide +kernel
theorem chT_30 : chT 900 = true := by decide +kernel
theorem chT_all (c : Nat) (hc : c ≤ 900) : chT c = true := by
  by_cases h0 : c < 30
  · have h := allN_ok chT_0 (c - 0) (by omega)
    rwa [show 0 + (c - 0) = c by omega] at h
  by_cases h1 : c < 60
  · have h := allN_ok chT_1 (c - 30) (by omega)
    rwa [show 30 + (c - 30) = c by omega] at h
  by_cases h2 : c < 90
  · have h := allN_ok chT_2 (c - 60) (by omega)
    rwa [show 60 + (c - 60) = c by omega] at h
  by_cases h3 : c < 120
  · have h := allN_ok chT_3 (c - 90) (by omega)
    rwa [show 90 + (c - 90) = c by omega] at h
  by_cases h4 : c < 150
  · have h := allN_ok chT_4 (c - 120) (by omega)
    rwa [show 120 + (c - 120) = c by omega] at h
  by_cases h5 : c < 180
  · have h := allN_ok chT_5 (c - 150) (by omega)
    rwa [show 150 + (c - 150) = c by omega] at h
  by_cases h6 : c < 210
  · have h := allN_ok chT_6 (c - 180) (by omega)
    rwa [show 180 + (c - 180) = c by omega] at h
  by_cases h7 : c < 240
  · have h := allN_ok chT_7 (c - 210) (by omega)
    rwa [show 210 + (c - 210) = c by omega] at h
  by_cases h8 : c < 270
  · have h := allN_ok chT_8 (c - 240) (by omega)
    rwa [show 240 + (c - 240) = c by omega] at h
  by_cases h9 : c < 300
  · have h := allN_ok chT_9 (c - 270) (by omega)
    rwa [show 270 + (c - 270) = c by omega] at h
  by_cases h10 : c < 330
  · have h := allN_ok chT_10 (c - 300) (by omega)
    rwa [show 300 + (c - 300) = c by omega] at h
  by_cases h11 : c < 360
  · have h := allN_ok chT_11 (c - 330) (by omega)
    rwa [show 330 + (c - 330) = c by omega] at h
  by_cases h12 : c < 390
  · have h := allN_ok chT_12 (c - 360) (by omega)
    rwa [show 360 + (c - 360) = c by omega] at h
  by_cases h13 : c < 420
  · have h := allN_ok chT_13 (c - 390) (by omega)
    rwa [show 390 + (c - 390) = c by omega] at h
  by_cases h14 : c < 450
  · have h := allN_ok chT_14 (c - 420) (by omega)
    rwa [show 420 + (c - 420) = c by omega] at h
  by_cases h15 : c < 480
  · have h := allN_ok chT_15 (c - 450) (by omega)
    rwa [show 450 + (c - 450) = c by omega] at h
  by_cases h16 : c < 510
  · have h := allN_ok chT_16 (c - 480) (by omega)
    rwa [show 480 + (c - 480) = c by omega] at h
  by_cases h17 : c < 540
  · have h := allN_ok chT_17 (c - 510) (by omega)
    rwa [show 510 + (c - 510) = c by omega] at h
  by_cases h18 : c < 570
  · have h := allN_ok chT_18 (c - 540) (by omega)
    rwa [show 540 + (c - 540) = c by omega] at h
  by_cases h19 : c < 600
  · have h := allN_ok chT_19 (c - 570) (by omega)
    rwa [show 570 + (c - 570) = c by omega] at h
  by_cases h20 : c < 630
  · have h := allN_ok chT_20 (c - 600) (by omega)
    rwa [show 600 + (c - 600) = c by omega] at h
  by_cases h21 : c < 660
  · have h := allN_ok chT_21 (c - 630) (by omega)
    rwa [show 630 + (c - 630) = c by omega] at h
  by_cases h22 : c < 690
  · have h := allN_ok chT_22 (c - 660) (by omega)
    rwa [show 660 + (c - 660) = c by omega] at h
  by_cases h23 : c < 720
  · have h := allN_ok chT_23 (c - 690) (by omega)
    rwa [show 690 + (c - 690) = c by omega] at h
  by_cases h24 : c < 750
  · have h := allN_ok chT_24 (c - 720) (by omega)
    rwa [show 720 + (c - 720) = c by omega] at h
  by_cases h25 : c < 780
  · have h := allN_ok chT_25 (c - 750) (by omega)
    rwa [show 750 + (c - 750) = c by omega] at h
  by_cases h26 : c < 810
  · have h := allN_ok chT_26 (c - 780) (by omega)
    rwa [show 780 + (c - 780) = c by omega] at h
  by_cases h27 : c < 840
  · have h := allN_ok chT_27 (c - 810) (by omega)
    rwa [show 810 + (c - 810) = c by omega] at h
  by_cases h28 : c < 870
  · have h := allN_ok chT_28 (c - 840) (by omega)
    rwa [show 840 + (c - 840) = c by omega] at h
  by_cases h29 : c < 900
  · have h := allN_ok chT_29 (c - 870) (by omega)
    rwa [show 870 + (c - 870) = c by omega] at h
  · rw [show c = 900 by omega]
    exact chT_30
theorem trunc_three {Ev : Env9} {M : Mem} (hT : TI kd0 sh0 rt0 bd0 M) (hl : rdI M 1 1 = rdI M 452 16) {x : Nat} (hx : x < 4294967296) : Three Ev 346 [vR 0, vI x, vR 465] 227 [vR 452, vI x] M := by
  have hL := lenM hT
  obtain ⟨c, hc⟩ : ∃ c : Nat, rdI M 1 1 = (c : Int) := ⟨(rdI M 1 1).toNat, by omega⟩
  have hE0 := yenv_add yenv_9 (yok_full x)
  have hE : yenv [sg x] [fullG] := hE0
  exact three_of (chT_all c (by omega)) hT hE (show svs kd0 [sg x] [sR (.inl 0), sI (0, 1, 0), sR (.inl 465)] [vR 0, vI x, vR 465] from ⟨sv_R (by decide), sv_I hx rfl, sv_R (by decide), trivial⟩) (show svs kd0 [sg x] [sR (.inl 452), sI (0, 1, 0)] [vR 452, vI x] from ⟨sv_R (by decide), sv_I hx rfl, trivial⟩) (H0T_ok (M := M) (by rw [hc]; exact yev_c) hl)
/-! append -/
noncomputable def asA (b : Nat) : List SV := [sR (.inl b), sI (0, 1, 0), sI (1, 1, 0), sI (2, 1, 0), sI (3, 1, 0), sI (4, 1, 0)]
noncomputable def asA9 : List SV := [sR (.inl 0), sI (0, 1, 0), sI (1, 1, 0), sI (2, 1, 0), sI (3, 1, 0), sI (4, 1, 0), sR (.inl 465)]
noncomputable def envA : YE := [fullG, fullG, fullG, fullG, fullG, (0, 900, 0, 0, 0, 0)]
theorem chAp_ok : chk3 345 asA9 226 (asA 452) envA (H0T (5, 1, 0)) = true := by decide +kernel
theorem app_three {Ev : Env9} {M : Mem} (hT : TI kd0 sh0 rt0 bd0 M) (hl : rdI M 1 1 = rdI M 452 16) {p0 p1 p2 p3 p4 : Nat} (h0 : p0 < 4294967296) (h1 : p1 < 4294967296) (h2 : p2 < 4294967296) (h3 : p3 < 4294967296) (h4 : p4 < 4294967296) : Three Ev 345 [vR 0, vI p0, vI p1, vI p2, vI p3, vI p4, vR 465] 226 [vR 452, vI p0, vI p1, vI p2, vI p3, vI p4] M := by
  have hL := lenM hT
  have e0 := yenv_add yenv_9 (yok_full p0)
  have e1 := yenv_add e0 (yok_full p1)
  have e2 := yenv_add e1 (yok_full p2)
  have e3 := yenv_add e2 (yok_full p3)
  have e4 := yenv_add e3 (yok_full p4)
  have e5 := yenv_add e4 (e := (0, 900, 0, 0, 0, 0)) (x := rdI M 1 1) ⟨hL.1, hL.2, fun h => Bool.noConfusion (show false = true from h)⟩
  have hE : yenv [sg p0, sg p1, sg p2, sg p3, sg p4, rdI M 1 1] envA := e5
  exact three_of chAp_ok hT hE (show svs kd0 [sg p0, sg p1, sg p2, sg p3, sg p4, rdI M 1 1] asA9 [vR 0, vI p0, vI p1, vI p2, vI p3, vI p4, vR 465] from ⟨sv_R (by decide), sv_I h0 rfl, sv_I h1 rfl, sv_I h2 rfl, sv_I h3 rfl, sv_I h4 rfl, sv_R (by decide), trivial⟩) (show svs kd0 [sg p0, sg p1, sg p2, sg p3, sg p4, rdI M 1 1] (asA 452) [vR 452, vI p0, vI p1, vI p2, vI p3, vI p4] from ⟨sv_R (by decide), sv_I h0 rfl, sv_I h1 rfl, sv_I h2 rfl, sv_I h3 rfl, sv_I h4 rfl, trivial⟩) (H0T_ok (M := M) (by rw [yev_gx (x := rdI M 1 1) rfl, Int.one_mul, Int.add_zero]) hl)
