/-! what class and reference have in common: the text, the numbers of echoes and valleys -/
/-- a world's statics and a row's are the same -/
def EqS (v v' : Nat → Int) : Prop := v 0 = v' 0 ∧ v 1 = v' 1 ∧ (∀ j : Nat, j < 12 → (j : Int) < v 0 → v (30 + 15 * j) = v' (30 + 15 * j) ∧ v (32 + 15 * j) = v' (32 + 15 * j) ∧ v (33 + 15 * j) = v' (33 + 15 * j)) ∧ ∀ j : Nat, j < 8 → (j : Int) < v 1 → v (210 + 17 * j) = v' (210 + 17 * j) ∧ v (211 + 17 * j) = v' (211 + 17 * j)
/-- a name in a row of numbers -/
def nmW (w : Nat → Nat) (a x : Nat) : Prop := ∃ (z : Nat) (U : Nat → Nat), 1 ≤ z ∧ z ≤ 6 ∧ w a = z ∧ (∀ k, k < z → w (a + 1 + k) = U k ∧ 97 ≤ U k ∧ U k ≤ 122) ∧ x = pkr (nmr U 0 z)
/-- the names of both sides are the same -/
def NmS (v v' : Nat → Int) : Prop := ∃ w : Nat → Nat, (∀ i, i < 627 → v' i = sg (w i) ∧ w i < 4294967296) ∧ (∀ j : Nat, j < 12 → (j : Int) < v 0 → ∃ x, x < 9223372036854775808 ∧ v (700 + j) = lsg x ∧ nmW w (23 + 15 * j) x) ∧ ∀ j : Nat, j < 8 → (j : Int) < v 1 → ∃ x, x < 9223372036854775808 ∧ v (720 + j) = lsg x ∧ nmW w (203 + 17 * j) x
def JX (M : Mem) : Prop := rdI M 0 7 = rdI M 452 7 ∧ ∃ v u v' u' : Nat → Int, JC v u M ∧ JR v' u' M ∧ (EqS v v' ∧ NmS v v') ∧ EqS u u' ∧ NmS u u'
def RJ (M : Mem) : Prop := RB M ∧ JX M
def KX (M M' : Mem) : Prop := rdI M' 0 7 = rdI M 0 7 ∧ rdI M' 452 7 = rdI M 452 7 ∧ ∀ v u v' u' : Nat → Int, JC v u M → JR v' u' M → JC v u M' ∧ JR v' u' M'
def KBX (ra rb : Bool) (M M' : Mem) : Prop := KB ra rb M M' ∧ KX M M'
theorem JX_k {M M' : Mem} (k : KX M M') (h : JX M) : JX M' := by
  obtain ⟨h0, v, u, v', u', a, b, c, d⟩ := h
  obtain ⟨k1, k2, k3⟩ := k
  obtain ⟨a', b'⟩ := k3 v u v' u' a b
  exact ⟨by rw [k1, k2]; exact h0, v, u, v', u', a', b', c, d⟩
theorem KX_fr {M M' : Mem} (hf : JFr M M') : KX M M' := ⟨hf 0 (by decide) 7 jp_07, hf 452 (by decide) 7 jp_r7, fun _ _ _ _ a b => ⟨JC_fr hf a, JR_fr hf b⟩⟩
theorem rj_two {z : Bool} {M M1 M2 : Mem} (h : RJ M) (k1 : KBX z false M M1) (k2 : KBX false z M1 M2) : RJ M2 := ⟨rb_two h.1 k1.1 k2.1, JX_k k2.2 (JX_k k1.2 h.2)⟩
theorem kw_fr {ct : Ctr} {M M' : Mem} (hw : wfree ct = true) (hk : KeptW ct M M') : JFr M M' := fun k hk9 i hj => hk k hk9 i (wfree_ok hw hj)
theorem lcJ_pre {ct : Ctr} {ak : Nat} {M : Mem} (hc : lcJ ct ak = true) (hJ : JI M) : PrFa kd0 [] ct.2.1 M ∧ PrSu kd0 [] ct.2.2.1 M := by
  obtain ⟨c1, hc⟩ := band (show (Bool.rec false (Bool.rec false (Bool.rec false (lcG ct) (allL ct.2.2.2.2 (valP ak))) (noSu ct)) (allL ct.2.1 (fimp (gdR 453 0))) : Bool) = true from hc)
  obtain ⟨c2, -⟩ := band hc
  refine ⟨fun f hf => fimp_ok (allL_ok c1 f hf) (of_good (by decide) hJ.2.2), ?_⟩
  unfold noSu at c2
  cases hs : ct.2.2.1 with
  | nil => intro q hq; cases hq
  | cons a l => rw [hs] at c2; cases c2
/-- a call of the law's that keeps what the two have in common -/
def CalX (call : Call) (E : Env9) (y ak : Nat) (ra rb : Bool) (as : List AV) : Prop := ∀ M, JI M → ∃ v S L M' z', call y E 466 as M = some [((0, 0), E, v, S, L, M', 466, z')] ∧ (∃ q : Nat × Int × Int, q.1 = ak ∧ rOK q v) ∧ JI M' ∧ KBX ra rb M M'
noncomputable def nw7 (ct : Ctr) : Bool := Bool.rec false (snot (inW ct.2.2.2.1 (kd0 452) ((7 : Nat) : Int))) (snot (inW ct.2.2.2.1 (kd0 0) ((7 : Nat) : Int)))
noncomputable def lcX (ct : Ctr) (ak : Nat) (ra rb : Bool) : Bool := Bool.rec false (lcB ct ak ra rb) (nw7 ct)
theorem calX_of {call : Call} {E : Env9} {y ak : Nat} {ct : Ctr} {ra rb : Bool} {as : List AV} (h : CtrOK kd0 sh0 rt0 bd0 Inv0 E call y ct) (h1 : ∀ v u v' u' : Nat → Int, CtrOK kd0 sh0 rt0 bd0 (Inv1 v u v' u') E call y ct) (hc : lcX ct ak ra rb = true) (ha : asOK kd0 ct.1 as) : CalX call E y ak ra rb as := by
  intro M hJ
  obtain ⟨n, hc⟩ := band (show (Bool.rec false (lcB ct ak ra rb) (nw7 ct) : Bool) = true from hc)
  obtain ⟨n0, n452⟩ := band (show (Bool.rec false (snot (inW ct.2.2.2.1 (kd0 452) ((7 : Nat) : Int))) (snot (inW ct.2.2.2.1 (kd0 0) ((7 : Nat) : Int))) : Bool) = true from n)
  obtain ⟨c1, c2, c3, c4, c5⟩ := lcB_ok hc
  obtain ⟨v, S, L, M', z', e, ⟨p, p1, p2, p3, p4⟩, J, hk⟩ := calG9_of h c1 ha M hJ
  refine ⟨v, S, L, M', z', e, ⟨p.2.1, p2, p3⟩, J, kb_of hJ.1 J.1 c2 c3 c5 c4 hk p1 p4, hk 0 (by decide) 7 (snot_t n0), hk 452 (by decide) 7 (snot_t n452), fun v9 u9 v8 u8 hC hR => ?_⟩
  obtain ⟨f1, f2⟩ := lcJ_pre c1 hJ
  obtain ⟨r, er, r1, r2, r3, r4, r5⟩ := h1 v9 u9 v8 u8 as M ha f1 f2 hJ.1 ⟨hJ.2.1, hC, hR⟩
  have e2 : some [r] = some [((0, 0), E, v, S, L, M', 466, z')] := er.symm.trans e
  injection e2 with e3
  injection e3 with e4
  subst e4
  exact r4.2
/-- what a call's run leaves is as the contract says -/
theorem kw_run {E : Env9} {y : Nat} {ct : Ctr} {as S L : List AV} {v : AV} {M M1 : Mem} {z : Nat} (h : CtrOK kd0 sh0 rt0 bd0 Inv0 E (runM 200) y ct) (hl : lcJ ct 0 = true) (ha : asOK kd0 ct.1 as) (hJ : JI M) (e : runM 200 y E 466 as M = some [((0, 0), E, v, S, L, M1, 466, z)]) : KeptW ct M M1 := by
  obtain ⟨v', S', L', M', z', e', -, -, hk⟩ := calG9_of h hl ha M hJ
  rw [e] at e'
  injection e' with e1
  injection e1 with e2
  injection e2 with a1 a2
  injection a2 with a3 a4
  injection a4 with a5 a6
  injection a6 with a7 a8
  injection a8 with a9 b1
  injection b1 with b2 b3
  subst b2
  exact hk
/-! cells that stand, told by their raw numbers -/
theorem so07 : ∃ q, sh0 (kd0 0) = .inl q ∧ q.2[7]? = some 0 := ⟨_, rfl, rfl⟩
theorem rn07 {M : Mem} (hT : TI kd0 sh0 rt0 bd0 M) : rdI M 0 7 = sg (rN M 0 7) ∧ rN M 0 7 < 4294967296 := by
  obtain ⟨q, h1, h2⟩ := so07
  exact rn_obj hT (by decide) h1 h2
theorem ty07 : ytyp kd0 sh0 0 ((7 : Nat) : Int) = true := by decide +kernel
theorem bd07 : bd0 (kd0 0) ((7 : Nat) : Int) = (0, 1) := by decide +kernel
theorem le07 {M : Mem} (hT : TI kd0 sh0 rt0 bd0 M) : rN M 0 7 ≤ 1 := by
  have b := bd_of hT ty07 bd07
  have r := rn07 hT
  exact sg_small r.2 (by decide) (by rw [← r.1]; exact b.1) (by rw [← r.1]; exact b.2)
theorem W9_in : ∀ C ∈ W9, 7 ≤ C ∧ C + 39 ≤ 440 := by decide
theorem cpJ_same {A : Nat} {M M' : Mem} (hA : A ∈ W9) (hT : TI kd0 sh0 rt0 bd0 M) (hT' : TI kd0 sh0 rt0 bd0 M') (h : ∀ k, A ≤ k → k < A + 39 → ∀ i, rN M' k i = rN M k i) : CpJ A A M M' := by
  obtain ⟨k4, k5, k6⟩ := kW_ok hA
  have hl := W9_lt A hA
  refine ⟨?_, ?_, fun j hj _ i hi => ?_, fun j hj _ i hi => ?_⟩
  · rw [(rn4 hT' (show A < 466 by omega) k4 (Or.inl rfl)).1, (rn4 hT (show A < 466 by omega) k4 (Or.inl rfl)).1, h A (Nat.le_refl _) (by omega)]
  · rw [(rn4 hT' (show A < 466 by omega) k4 (Or.inr rfl)).1, (rn4 hT (show A < 466 by omega) k4 (Or.inr rfl)).1, h A (Nat.le_refl _) (by omega)]
  · exact eq5 hT hT' (show A + 3 + j < 466 by omega) (show A + 3 + j < 466 by omega) (k5 j hj) (k5 j hj) hi (h (A + 3 + j) (by omega) (by omega) _)
  · exact eq6 hT hT' (show A + 15 + 3 * j < 466 by omega) (show A + 15 + 3 * j < 466 by omega) (k6 j hj) (k6 j hj) hi (h (A + 15 + 3 * j) (by omega) (by omega) _)
theorem cpJ_of2 {A B : Nat} {M M' : Mem} {f g : Vw} (hA : A ∈ W9) (hB : B ∈ W9) (hT : TI kd0 sh0 rt0 bd0 M) (hT' : TI kd0 sh0 rt0 bd0 M') (hff : ∀ k i, f k i = rN M k i) (hc : CpW A B f g) (hf : ∀ k, 7 ≤ k → k < 440 → k ≠ 126 → ∀ i, rN M' k i = g k i) : CpJ A B M M' := by
  obtain ⟨a4, a5, a6⟩ := kW_ok hA
  obtain ⟨b4, b5, b6⟩ := kW_ok hB
  have la := W9_in A hA
  have lb := W9_in B hB
  have n126 : ∀ C ∈ W9, C + 39 ≤ 126 ∨ 126 < C := by decide
  have na := n126 A hA
  have nb := n126 B hB
  obtain ⟨⟨-, c2⟩, -, c3⟩ := cnt9 hT hB
  obtain ⟨p1, p2, p3, -⟩ := hc
  have E : ∀ k k' i, 7 ≤ k → k < 440 → k ≠ 126 → g k i = f k' i → rN M' k i = rN M k' i := fun k k' i h1 h2 h3 e => (hf k h1 h2 h3 i).trans (e.trans (hff k' i))
  refine ⟨?_, ?_, fun j hj h9 i hi => ?_, fun j hj h9 i hi => ?_⟩
  · rw [(rn4 hT' (show A < 466 by omega) a4 (Or.inl rfl)).1, (rn4 hT (show B < 466 by omega) b4 (Or.inl rfl)).1, E A B 2 (by omega) (by omega) (by omega) (p1 2 (by decide) (by decide))]
  · rw [(rn4 hT' (show A < 466 by omega) a4 (Or.inr rfl)).1, (rn4 hT (show B < 466 by omega) b4 (Or.inr rfl)).1, E A B 3 (by omega) (by omega) (by omega) (p1 3 (by decide) (by decide))]
  · rw [c2] at h9
    exact eq5 hT hT' (show A + 3 + j < 466 by omega) (show B + 3 + j < 466 by omega) (a5 j hj) (b5 j hj) hi (E (A + 3 + j) (B + 3 + j) i (by omega) (by omega) (by omega) (p2 j (by rw [hff B 2]; omega) i (by omega)))
  · rw [c3] at h9
    exact eq6 hT hT' (show A + 15 + 3 * j < 466 by omega) (show B + 15 + 3 * j < 466 by omega) (a6 j hj) (b6 j hj) hi (E (A + 15 + 3 * j) (B + 15 + 3 * j) i (by omega) (by omega) (by omega) ((p3 j (by rw [hff B 3]; omega)).1 i (by omega) (by omega) (by omega)))
theorem LvS_same {M M' : Mem} {s : Nat} (e1 : rdI M' 126 1 = rdI M 126 1) (e2 : rdI M' 126 2 = rdI M 126 2) (h : LvS M' s) : LvS M s := by
  obtain ⟨c, q1, q2, q3⟩ := h
  rw [e2] at q2
  rw [e1] at q3
  exact ⟨c, q1, q2, q3⟩
theorem LvS_no {M : Mem} {s : Nat} (e : rdI M 126 2 = 0) (h : LvS M s) : False := by
  obtain ⟨c, q1, q2, -⟩ := h
  rw [e] at q2
  omega
/-- the statics that a world has -/
noncomputable def vOf (M : Mem) (A : Nat) (i : Nat) : Int := if i = 0 then rdI M A 2 else if i = 1 then rdI M A 3 else if 700 ≤ i then (if i < 720 then rdI M (A + 3 + (i - 700)) 0 else rdI M (A + 15 + 3 * (i - 720)) 0) else if i < 210 then rdI M (A + 3 + (i - 30) / 15) (if (i - 30) % 15 = 0 then 1 else if (i - 30) % 15 = 2 then 3 else 4) else rdI M (A + 15 + 3 * ((i - 210) / 17)) (1 + (i - 210) % 17)
theorem vOf_e (M : Mem) (A j : Nat) (hj : j < 12) : vOf M A (30 + 15 * j) = rdI M (A + 3 + j) 1 ∧ vOf M A (32 + 15 * j) = rdI M (A + 3 + j) 3 ∧ vOf M A (33 + 15 * j) = rdI M (A + 3 + j) 4 ∧ vOf M A (700 + j) = rdI M (A + 3 + j) 0 := by
  refine ⟨?_, ?_, ?_, ?_⟩
  · unfold vOf
    rw [if_neg (by omega), if_neg (by omega), if_neg (by omega), if_pos (by omega), show (30 + 15 * j - 30) / 15 = j by omega, if_pos (by omega)]
  · unfold vOf
    rw [if_neg (by omega), if_neg (by omega), if_neg (by omega), if_pos (by omega), show (32 + 15 * j - 30) / 15 = j by omega, if_neg (by omega), if_pos (by omega)]
  · unfold vOf
    rw [if_neg (by omega), if_neg (by omega), if_neg (by omega), if_pos (by omega), show (33 + 15 * j - 30) / 15 = j by omega, if_neg (by omega), if_neg (by omega)]
  · unfold vOf
    rw [if_neg (by omega), if_neg (by omega), if_pos (by omega), if_pos (by omega), show 700 + j - 700 = j by omega]
theorem vOf_v (M : Mem) (A j : Nat) (hj : j < 8) : vOf M A (210 + 17 * j) = rdI M (A + 15 + 3 * j) 1 ∧ vOf M A (211 + 17 * j) = rdI M (A + 15 + 3 * j) 2 ∧ vOf M A (720 + j) = rdI M (A + 15 + 3 * j) 0 := by
  refine ⟨?_, ?_, ?_⟩
  · unfold vOf
    rw [if_neg (by omega), if_neg (by omega), if_neg (by omega), if_neg (by omega), show (210 + 17 * j - 210) / 17 = j by omega, show 1 + (210 + 17 * j - 210) % 17 = 1 by omega]
  · unfold vOf
    rw [if_neg (by omega), if_neg (by omega), if_neg (by omega), if_neg (by omega), show (211 + 17 * j - 210) / 17 = j by omega, show 1 + (211 + 17 * j - 210) % 17 = 2 by omega]
  · unfold vOf
    rw [if_neg (by omega), if_neg (by omega), if_pos (by omega), if_neg (by omega), show 720 + j - 720 = j by omega]
theorem StC_vOf (M : Mem) (A : Nat) : StC (vOf M A) M A := by
  refine ⟨rfl, rfl, fun j hj _ => ?_, fun j hj _ => ?_⟩
  · obtain ⟨a, b, c, d⟩ := vOf_e M A j hj
    exact ⟨a.symm, b.symm, c.symm, d.symm⟩
  · obtain ⟨a, b, c⟩ := vOf_v M A j hj
    exact ⟨a.symm, b.symm, c.symm⟩
theorem JC_same {v u : Nat → Int} {M M' : Mem} (hT : TI kd0 sh0 rt0 bd0 M) (hT' : TI kd0 sh0 rt0 bd0 M') (h : ∀ k, (7 ≤ k ∧ k < 46) ∨ (86 < k ∧ k < 440) → ∀ i, rN M' k i = rN M k i) (h7 : rdI M' 0 7 = rdI M 0 7) (hC : JC v u M) : JC v u M' := by
  obtain ⟨c1, c2, c3⟩ := hC
  have e : ∀ i, i = 1 ∨ i = 2 → rdI M' 126 i = rdI M 126 i := fun i hi => by rw [(rnH hT' hi).1, (rnH hT hi).1, h 126 (Or.inr ⟨by decide, by decide⟩)]
  refine ⟨StC_cp (cpJ_same (by decide) hT hT' (fun k a b => h k (Or.inl ⟨a, b⟩))) c1, fun q => StC_cp (cpJ_same (by decide) hT hT' (fun k a b => h k (Or.inr ⟨by omega, by omega⟩))) (c2 (by rw [← h7]; exact q)), fun s hs q => StC_cp (cpJ_same (W9_s hs) hT hT' (fun k a b => h k (Or.inr ⟨by omega, by omega⟩))) (c3 s hs (LvS_same (e 1 (Or.inl rfl)) (e 2 (Or.inr rfl)) q))⟩
theorem is_0 : isSt 0 = true := by decide +kernel
theorem is_1 : isSt 1 = true := by decide +kernel
theorem JX_cnt {M : Mem} (hT : TI kd0 sh0 rt0 bd0 M) (h : JX M) : rN M 7 2 = rN M 453 0 ∧ rN M 7 3 = rN M 453 1 := by
  obtain ⟨-, v, u, v', u', c, r, ⟨⟨e0, e1, -⟩, -⟩, -⟩ := h
  obtain ⟨q, hq⟩ := sa_453
  have a2 := rn4 (k := 7) hT (by decide) (kW_ok (show 7 ∈ W9 by decide)).1 (Or.inl rfl)
  have a3 := rn4 (k := 7) hT (by decide) (kW_ok (show 7 ∈ W9 by decide)).1 (Or.inr rfl)
  have b0 := rn_arr (k := 453) (i := 0) hT (by decide) hq
  have b1 := rn_arr (k := 453) (i := 1) hT (by decide) hq
  have s0 : rdI M 453 0 = v' 0 := r.1 0 (by decide) is_0
  have s1 : rdI M 453 1 = v' 1 := r.1 1 (by decide) is_1
  exact ⟨sg_inj a2.2 b0.2 (by rw [← a2.1, ← b0.1, s0, ← e0]; exact c.1.1), sg_inj a3.2 b1.2 (by rw [← a3.1, ← b1.1, s1, ← e1]; exact c.1.2.1)⟩
