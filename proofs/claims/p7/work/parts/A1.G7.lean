/-! errors: what class and reference say of the last load or executeCommands -/
def RE (M : Mem) : Prop := rdI M 0 13 = rdI M 452 22 ∧ rdI M 0 14 = rdI M 452 23
def RZ (M : Mem) : Prop := RJ M ∧ RE M
def KE (M M' : Mem) : Prop := rdI M' 0 13 = rdI M 0 13 ∧ rdI M' 0 14 = rdI M 0 14 ∧ rdI M' 452 22 = rdI M 452 22 ∧ rdI M' 452 23 = rdI M 452 23
def KBK (ra rb : Bool) (M M' : Mem) : Prop := KBX ra rb M M' ∧ KE M M'
theorem re_k {M M' : Mem} (k : KE M M') (h : RE M) : RE M' := by
  obtain ⟨a, b, c, d⟩ := k
  exact ⟨by rw [a, c]; exact h.1, by rw [b, d]; exact h.2⟩
theorem rk_two {z : Bool} {M M1 M2 : Mem} (h : RZ M) (k1 : KBK z false M M1) (k2 : KBK false z M1 M2) : RZ M2 := ⟨rj_two h.1 k1.1 k2.1, re_k k2.2 (re_k k1.2 h.2)⟩
noncomputable def nwE (ct : Ctr) : Bool := Bool.rec false (Bool.rec false (Bool.rec false (snot (inW ct.2.2.2.1 (kd0 452) ((23 : Nat) : Int))) (snot (inW ct.2.2.2.1 (kd0 452) ((22 : Nat) : Int)))) (snot (inW ct.2.2.2.1 (kd0 0) ((14 : Nat) : Int)))) (snot (inW ct.2.2.2.1 (kd0 0) ((13 : Nat) : Int)))
theorem nwE_ok {ct : Ctr} {M M' : Mem} (h : nwE ct = true) (hk : KeptW ct M M') : KE M M' := by
  obtain ⟨n1, h⟩ := band (show (Bool.rec false (Bool.rec false (Bool.rec false (snot (inW ct.2.2.2.1 (kd0 452) ((23 : Nat) : Int))) (snot (inW ct.2.2.2.1 (kd0 452) ((22 : Nat) : Int)))) (snot (inW ct.2.2.2.1 (kd0 0) ((14 : Nat) : Int)))) (snot (inW ct.2.2.2.1 (kd0 0) ((13 : Nat) : Int))) : Bool) = true from h)
  obtain ⟨n2, h⟩ := band h
  obtain ⟨n3, n4⟩ := band h
  exact ⟨hk 0 (by decide) 13 (snot_t n1), hk 0 (by decide) 14 (snot_t n2), hk 452 (by decide) 22 (snot_t n3), hk 452 (by decide) 23 (snot_t n4)⟩
theorem run_1 {E E' : Env9} {X : OR} {e e0 : Nat × Nat} {v v' : AV} {S S' L L' : List AV} {M' M'' : Mem} {n n' z z' : Nat} (h : X = some [(e, E, v, S, L, M', n, z)]) (h' : X = some [(e0, E', v', S', L', M'', n', z')]) : v = v' ∧ M' = M'' := by
  rw [h] at h'
  injection h' with e1
  injection e1 with e2
  injection e2 with a1 a2
  injection a2 with a3 a4
  injection a4 with a5 a6
  injection a6 with a7 a8
  injection a8 with a9 b1
  injection b1 with b2 b3
  exact ⟨a5, b2⟩
def CalK (call : Call) (E : Env9) (y ak : Nat) (ra rb : Bool) (as : List AV) : Prop := ∀ M, JI M → ∃ v S L M' z', call y E 466 as M = some [((0, 0), E, v, S, L, M', 466, z')] ∧ (∃ q : Nat × Int × Int, q.1 = ak ∧ rOK q v) ∧ JI M' ∧ KBK ra rb M M'
noncomputable def lcK (ct : Ctr) (ak : Nat) (ra rb : Bool) : Bool := Bool.rec false (lcX ct ak ra rb) (nwE ct)
theorem calK_of {call : Call} {E : Env9} {y ak : Nat} {ct : Ctr} {ra rb : Bool} {as : List AV} (h : CtrOK kd0 sh0 rt0 bd0 Inv0 E call y ct) (h1 : ∀ v u v' u' : Nat → Int, CtrOK kd0 sh0 rt0 bd0 (Inv1 v u v' u') E call y ct) (hc : lcK ct ak ra rb = true) (ha : asOK kd0 ct.1 as) : CalK call E y ak ra rb as := by
  intro M hJ
  obtain ⟨n, hc⟩ := band (show (Bool.rec false (lcX ct ak ra rb) (nwE ct) : Bool) = true from hc)
  obtain ⟨v, S, L, M', z', e, a, J, k⟩ := calX_of h h1 hc ha M hJ
  obtain ⟨-, hc2⟩ := band (show (Bool.rec false (lcB ct ak ra rb) (nw7 ct) : Bool) = true from hc)
  obtain ⟨c1, -⟩ := lcB_ok hc2
  obtain ⟨v2, S2, L2, M2, z2, e2, -, -, hk⟩ := calG9_of h c1 ha M hJ
  obtain ⟨-, b⟩ := run_1 e e2
  refine ⟨v, S, L, M', z', e, a, J, k, ?_⟩
  rw [b]
  exact nwE_ok n hk
