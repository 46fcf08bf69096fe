/-! a call of the law's: what it leaves -/
def JI (M : Mem) : Prop := TI kd0 sh0 rt0 bd0 M ∧ Inv0 M ∧ GoodR M 453 0
/-- one of these facts says it -/
noncomputable def fimp1 (g f : Fct) : Bool := Bool.rec false (Bool.rec false (ile g.2.2 f.2.2) (ile f.2.1 g.2.1)) (eKey g.1 f.1)
noncomputable def fimp (l : List Fct) (f : Fct) : Bool := List.rec false (fun g _ ih => Bool.rec ih true (fimp1 g f)) l
theorem fimp_ok {f : Fct} {M : Mem} : ∀ {l : List Fct}, fimp l f = true → PrFa kd0 [] l M → ∃ k i, Pl kd0 [] f.1 k i ∧ f.2.1 ≤ rdI M k i ∧ rdI M k i ≤ f.2.2 := by
  intro l
  induction l with
  | nil => intro h _; cases h
  | cons g l ih =>
    intro h hl
    have h : (Bool.rec (fimp l f) true (fimp1 g f) : Bool) = true := h
    cases hb : fimp1 g f with
    | false => rw [hb] at h; exact ih h (fun a ha => hl a (List.mem_cons_of_mem _ ha))
    | true =>
      obtain ⟨h1, h2⟩ := band (show (Bool.rec false (Bool.rec false (ile g.2.2 f.2.2) (ile f.2.1 g.2.1)) (eKey g.1 f.1) : Bool) = true from hb)
      obtain ⟨h3, h4⟩ := band h2
      obtain ⟨k, i, p1, p2, p3⟩ := hl g List.mem_cons_self
      exact ⟨k, i, by rw [← eKey_eq h1]; exact p1, Int.le_trans (ile_iff.mp h3) p2, Int.le_trans p3 (ile_iff.mp h4)⟩
theorem fimp_at {k i : Nat} {lo hi : Int} {l : List Fct} {M : Mem} (h : fimp l ((.inl k, (0, 0, (i : Int))), lo, hi) = true) (hl : PrFa kd0 [] l M) : lo ≤ rdI M k i ∧ rdI M k i ≤ hi :=
  fact_1 (fun a ha => by rw [List.mem_singleton.mp ha]; exact fimp_ok h hl)
/-- at the end the place holds a number within: told by each end, or not written -/
noncomputable def endP (k i : Nat) (lo hi : Int) (ct : Ctr) : Bool := Bool.rec (allL ct.2.2.2.2 (fun p => fimp p.2.2.1 ((.inl k, (0, 0, (i : Int))), lo, hi))) true (snot (inW ct.2.2.2.1 (kd0 k) (i : Int)))
def KeptW (ct : Ctr) (M M' : Mem) : Prop := ∀ k : Nat, k < 466 → ∀ i : Nat, inW ct.2.2.2.1 (kd0 k) i = false → rdI M' k i = rdI M k i
theorem endP_ok {k i : Nat} {lo hi : Int} {ct : Ctr} {M M' : Mem} (hk : k < 466) (h : endP k i lo hi ct = true) (hf : KeptW ct M M') {p : Pst} (hp : p ∈ ct.2.2.2.2) (hpf : PrFa kd0 [] p.2.2.1 M') (h0 : lo ≤ rdI M k i ∧ rdI M k i ≤ hi) : lo ≤ rdI M' k i ∧ rdI M' k i ≤ hi := by
  have h : (Bool.rec (allL ct.2.2.2.2 (fun p => fimp p.2.2.1 ((.inl k, (0, 0, (i : Int))), lo, hi))) true (snot (inW ct.2.2.2.1 (kd0 k) (i : Int))) : Bool) = true := h
  cases hb : snot (inW ct.2.2.2.1 (kd0 k) (i : Int)) with
  | false => rw [hb] at h; exact fimp_at (allL_ok h p hp) hpf
  | true => rw [hf k hk i (snot_t hb)]; exact h0
noncomputable def lz (z : Bool) (x : Int) : Int := Bool.rec x 0 z
noncomputable def lenP (z : Bool) (k i : Nat) (ct : Ctr) : Bool := Bool.rec (snot (inW ct.2.2.2.1 (kd0 k) (i : Int))) (allL ct.2.2.2.2 (fun p => fimp p.2.2.1 ((.inl k, (0, 0, (i : Int))), 0, 0))) z
theorem lenP_ok {z : Bool} {k i : Nat} {ct : Ctr} {M M' : Mem} (hk : k < 466) (h : lenP z k i ct = true) (hf : KeptW ct M M') {p : Pst} (hp : p ∈ ct.2.2.2.2) (hpf : PrFa kd0 [] p.2.2.1 M') : rdI M' k i = lz z (rdI M k i) := by
  cases z with
  | false => exact hf k hk i (snot_t h)
  | true =>
    have h := fimp_at (allL_ok (show allL ct.2.2.2.2 (fun p => fimp p.2.2.1 ((.inl k, (0, 0, (i : Int))), 0, 0)) = true from h) p hp) hpf
    exact Int.le_antisymm h.2 h.1
noncomputable def valP (ak : Nat) (p : Pst) : Bool := Bool.rec false (Bool.rec false (Nat.beq p.2.1.1 ak) (Nat.beq p.1.2 0)) (Nat.beq p.1.1 0)
noncomputable def lcG (ct : Ctr) : Bool := Bool.rec false (Bool.rec false (Bool.rec false (endP 453 1 1 8 ct) (endP 453 0 1 12 ct)) (endP 453 4 1 12 ct)) (endP 453 3 1 30 ct)
noncomputable def noSu (ct : Ctr) : Bool := match ct.2.2.1 with | [] => true | _ => false
noncomputable def lcJ (ct : Ctr) (ak : Nat) : Bool := Bool.rec false (Bool.rec false (Bool.rec false (lcG ct) (allL ct.2.2.2.2 (valP ak))) (noSu ct)) (allL ct.2.1 (fimp (gdR 453 0)))
theorem calG9_of {call : Call} {E : Env9} {y ak : Nat} {ct : Ctr} {as : List AV} (h : CtrOK kd0 sh0 rt0 bd0 Inv0 E call y ct) (hc : lcJ ct ak = true) (ha : asOK kd0 ct.1 as) : ∀ M, JI M → ∃ v S L M' z', call y E 466 as M = some [((0, 0), E, v, S, L, M', 466, z')] ∧ (∃ p ∈ ct.2.2.2.2, p.2.1.1 = ak ∧ rOK p.2.1 v ∧ PrFa kd0 [] p.2.2.1 M') ∧ JI M' ∧ KeptW ct M M' := by
  intro M hJ
  obtain ⟨hT, hI, hG⟩ := hJ
  obtain ⟨c1, hc⟩ := band (show (Bool.rec false (Bool.rec false (Bool.rec false (lcG ct) (allL ct.2.2.2.2 (valP ak))) (noSu ct)) (allL ct.2.1 (fimp (gdR 453 0))) : Bool) = true from hc)
  obtain ⟨c2, hc⟩ := band hc
  obtain ⟨c3, c4⟩ := band hc
  obtain ⟨g3, c4⟩ := band (show (Bool.rec false (Bool.rec false (Bool.rec false (endP 453 1 1 8 ct) (endP 453 0 1 12 ct)) (endP 453 4 1 12 ct)) (endP 453 3 1 30 ct) : Bool) = true from c4)
  obtain ⟨g4, c4⟩ := band c4
  obtain ⟨g0, g1⟩ := band c4
  have hsu : PrSu kd0 [] ct.2.2.1 M := by
    unfold noSu at c2
    cases hs : ct.2.2.1 with
    | nil => intro q hq; cases hq
    | cons a l => rw [hs] at c2; cases c2
  obtain ⟨r, e, r1, r2, r3, r4, r5, p, p1, p2⟩ := h as M ha (fun f hf => fimp_ok (allL_ok c1 f hf) (of_good (by decide) hG)) hsu hT hI
  obtain ⟨⟨a, b⟩, E', v, S, L, M', n', z'⟩ := r
  have r1 : E' = E := r1
  have r2 : n' = 466 := r2
  have hp := allL_ok c3 p p1
  obtain ⟨v1, hp⟩ := band (show (Bool.rec false (Bool.rec false (Nat.beq p.2.1.1 ak) (Nat.beq p.1.2 0)) (Nat.beq p.1.1 0) : Bool) = true from hp)
  obtain ⟨v2, v3⟩ := band hp
  have q0 : ((a, b) : Nat × Nat) = p.1 := p2.1
  have q1 : a = 0 := by rw [show a = p.1.1 from congrArg Prod.fst q0]; exact Nat.eq_of_beq_eq_true v1
  have q2 : b = 0 := by rw [show b = p.1.2 from congrArg Prod.snd q0]; exact Nat.eq_of_beq_eq_true v2
  cases q1
  cases q2
  cases r1
  cases r2
  have hk : KeptW ct M M' := r5
  have hpf : PrFa kd0 [] p.2.2.1 M' := p2.2.2.1
  refine ⟨v, S, L, M', z', e, ⟨p, p1, Nat.eq_of_beq_eq_true v3, p2.2.1 rfl, hpf⟩, ⟨r3, r4, ?_⟩, hk⟩
  exact ⟨endP_ok (i := 0 + 3) (by decide) g3 hk p1 hpf hG.1, endP_ok (i := 0 + 4) (by decide) g4 hk p1 hpf hG.2.1, endP_ok (i := 0 + 0) (by decide) g0 hk p1 hpf hG.2.2.1, endP_ok (i := 0 + 1) (by decide) g1 hk p1 hpf hG.2.2.2⟩
/-! raw numbers of the memory -/
theorem rn_obj {M : Mem} {k i : Nat} {q : Nat × List Nat} (hT : TI kd0 sh0 rt0 bd0 M) (hk : k < 466) (hs : sh0 (kd0 k) = .inl q) (hi : q.2[i]? = some 0) : rdI M k i = sg (rN M k i) ∧ rN M k i < 4294967296 := by
  obtain ⟨fs, e1, e2, e3⟩ := co_obj hT hk hs
  obtain ⟨x, x1, x2, -⟩ := e3 i 0 hi
  have a : rdI M k i = avI (nth fs i) := by
    show rdC (tget 9 M k) i = _
    rw [e1]
    rfl
  have b : rN M k i = rN1 (nth fs i) := by
    show rNc (tget 9 M k) i = _
    rw [e1]
    rfl
  rw [a, b, x1]
  exact ⟨rfl, x2⟩
theorem rn_arr {M : Mem} {k i : Nat} {q : Nat × Nat} (hT : TI kd0 sh0 rt0 bd0 M) (hk : k < 466) (hs : sh0 (kd0 k) = .inr (.inl q)) : rdI M k i = sg (rN M k i) ∧ rN M k i < 4294967296 := by
  obtain ⟨p, e1, -, -⟩ := co_arr hT hk hs
  have a : rdI M k i = sg (pget p i) := by
    show rdC (tget 9 M k) i = _
    rw [e1]
    rfl
  have b : rN M k i = pget p i := by
    show rNc (tget 9 M k) i = _
    rw [e1]
    rfl
  rw [a, b]
  exact ⟨rfl, pget_lt p i⟩
theorem rn_keep {M M' : Mem} {k i : Nat} (h : rdI M k i = sg (rN M k i) ∧ rN M k i < 4294967296) (h' : rdI M' k i = sg (rN M' k i) ∧ rN M' k i < 4294967296) (e : rdI M' k i = rdI M k i) : rN M' k i = rN M k i := sg_inj h'.2 h.2 (by rw [← h'.1, ← h.1, e])
theorem so_1 : ∃ q, sh0 (kd0 1) = .inl q ∧ q.2[1]? = some 0 := ⟨_, rfl, rfl⟩
theorem so_452 : ∃ q, sh0 (kd0 452) = .inl q ∧ q.2[16]? = some 0 ∧ q.2[6]? = some 0 := ⟨_, rfl, rfl, rfl⟩
theorem sa_2 : ∃ q, sh0 (kd0 2) = .inr (.inl q) := ⟨_, rfl⟩
theorem sa_462 : ∃ q, sh0 (kd0 462) = .inr (.inl q) := ⟨_, rfl⟩
theorem rn_1 {M : Mem} (hT : TI kd0 sh0 rt0 bd0 M) : rdI M 1 1 = sg (rN M 1 1) ∧ rN M 1 1 < 4294967296 := by
  obtain ⟨q, h1, h2⟩ := so_1
  exact rn_obj hT (by decide) h1 h2
theorem rn_16 {M : Mem} (hT : TI kd0 sh0 rt0 bd0 M) : rdI M 452 16 = sg (rN M 452 16) ∧ rN M 452 16 < 4294967296 := by
  obtain ⟨q, h1, h2, h3⟩ := so_452
  exact rn_obj hT (by decide) h1 h2
theorem rn_6 {M : Mem} (hT : TI kd0 sh0 rt0 bd0 M) : rdI M 452 6 = sg (rN M 452 6) ∧ rN M 452 6 < 4294967296 := by
  obtain ⟨q, h1, h2, h3⟩ := so_452
  exact rn_obj hT (by decide) h1 h3
theorem rn_2 {M : Mem} (hT : TI kd0 sh0 rt0 bd0 M) (i : Nat) : rdI M 2 i = sg (rN M 2 i) ∧ rN M 2 i < 4294967296 := by
  obtain ⟨q, h1⟩ := sa_2
  exact rn_arr hT (by decide) h1
theorem rn_462 {M : Mem} (hT : TI kd0 sh0 rt0 bd0 M) (i : Nat) : rdI M 462 i = sg (rN M 462 i) ∧ rN M 462 i < 4294967296 := by
  obtain ⟨q, h1⟩ := sa_462
  exact rn_arr hT (by decide) h1
theorem tyL9 : ytyp kd0 sh0 1 ((1 : Nat) : Int) = true := by decide +kernel
theorem bdL9 : bd0 (kd0 1) ((1 : Nat) : Int) = (0, 900) := by decide +kernel
theorem len9 {M : Mem} (hT : TI kd0 sh0 rt0 bd0 M) : rN M 1 1 ≤ 900 := by
  obtain ⟨-, i, h1, h2, h3⟩ := ytyp_ok hT tyL9
  have e : i = 1 := by omega
  subst e
  rw [bdL9] at h2 h3
  have h4 := rn_1 hT
  exact sg_small h4.2 (by decide) (by rw [← h4.1]; exact h2) (by rw [← h4.1]; exact h3)
/-- class and reference hold the same text -/
def RB (M : Mem) : Prop := rN M 1 1 = rN M 452 16 ∧ ∀ i, i < rN M 1 1 → g_iand (rN M 2 i) 255 = rN M 462 i
noncomputable def lzN (z : Bool) (x : Nat) : Nat := Bool.rec x 0 z
/-- the texts are kept, or made empty -/
def KB (ra rb : Bool) (M M' : Mem) : Prop := rN M' 1 1 = lzN ra (rN M 1 1) ∧ rN M' 452 16 = lzN rb (rN M 452 16) ∧ (∀ i, rN M' 2 i = rN M 2 i) ∧ ∀ i, rN M' 462 i = rN M 462 i
theorem rb_two {z : Bool} {M M1 M2 : Mem} (h : RB M) (k1 : KB z false M M1) (k2 : KB false z M1 M2) : RB M2 := by
  obtain ⟨a1, a2, a3, a4⟩ := k1
  obtain ⟨b1, b2, b3, b4⟩ := k2
  have b1 : rN M2 1 1 = rN M1 1 1 := b1
  have a2 : rN M1 452 16 = rN M 452 16 := a2
  cases z with
  | false =>
    have a1 : rN M1 1 1 = rN M 1 1 := a1
    have b2 : rN M2 452 16 = rN M1 452 16 := b2
    refine ⟨by rw [b1, b2, a1, a2]; exact h.1, fun i hi => ?_⟩
    rw [b3, b4, a3, a4]
    exact h.2 i (by rw [← a1, ← b1]; exact hi)
  | true =>
    have a1 : rN M1 1 1 = 0 := a1
    have b2 : rN M2 452 16 = 0 := b2
    exact ⟨by rw [b1, b2, a1], fun i hi => absurd hi (by rw [b1, a1]; exact Nat.not_lt_zero i)⟩
noncomputable def noW (ct : Ctr) (κ : Nat) : Bool := allL ct.2.2.2.1 (fun a => snot (Nat.beq a.1 κ))
theorem noW_ok {ct : Ctr} {κ : Nat} (h : noW ct κ = true) (v : Int) : inW ct.2.2.2.1 κ v = false := by
  cases hb : inW ct.2.2.2.1 κ v with
  | false => rfl
  | true =>
    obtain ⟨a, h1, h2, -, -⟩ := inW_mem hb
    have h3 := snot_t (allL_ok h a h1)
    rw [h2, Nat.beq_refl] at h3
    cases h3
theorem lz_f (x : Int) : lz false x = x := rfl
theorem lz_t (x : Int) : lz true x = 0 := rfl
theorem lzN_f (x : Nat) : lzN false x = x := rfl
theorem lzN_t (x : Nat) : lzN true x = 0 := rfl
theorem lz_n {z : Bool} {x y : Nat} (hx : x < 4294967296) (hy : y < 4294967296) (h : sg y = lz z (sg x)) : y = lzN z x := by
  cases z with
  | false =>
    rw [lz_f] at h
    rw [lzN_f]
    exact sg_inj hy hx h
  | true =>
    rw [lz_t] at h
    rw [lzN_t]
    exact sg_inj hy (by omega) (h.trans sgZ0.symm)
theorem kb_of {ra rb : Bool} {ct : Ctr} {M M' : Mem} {p : Pst} (hT : TI kd0 sh0 rt0 bd0 M) (hT' : TI kd0 sh0 rt0 bd0 M') (h1 : lenP ra 1 1 ct = true) (h2 : lenP rb 452 16 ct = true) (w1 : noW ct (kd0 2) = true) (w2 : noW ct (kd0 462) = true) (hk : KeptW ct M M') (hp : p ∈ ct.2.2.2.2) (hpf : PrFa kd0 [] p.2.2.1 M') : KB ra rb M M' := by
  have a := lenP_ok (by decide) h1 hk hp hpf
  have b := lenP_ok (by decide) h2 hk hp hpf
  have r1 := rn_1 hT
  have r1' := rn_1 hT'
  have r2 := rn_16 hT
  have r2' := rn_16 hT'
  rw [r1.1, r1'.1] at a
  rw [r2.1, r2'.1] at b
  exact ⟨lz_n r1.2 r1'.2 a, lz_n r2.2 r2'.2 b, fun i => rn_keep (rn_2 hT i) (rn_2 hT' i) (hk 2 (by decide) i (noW_ok w1 _)), fun i => rn_keep (rn_462 hT i) (rn_462 hT' i) (hk 462 (by decide) i (noW_ok w2 _))⟩
/-- a call, from any memory that is good: its answer's kind, the texts after it -/
def CalB9 (call : Call) (E : Env9) (y ak : Nat) (ra rb : Bool) (as : List AV) : Prop := ∀ M, JI M → ∃ v S L M' z', call y E 466 as M = some [((0, 0), E, v, S, L, M', 466, z')] ∧ (∃ q : Nat × Int × Int, q.1 = ak ∧ rOK q v) ∧ JI M' ∧ KB ra rb M M'
noncomputable def lcB (ct : Ctr) (ak : Nat) (ra rb : Bool) : Bool := Bool.rec false (Bool.rec false (Bool.rec false (Bool.rec false (noW ct (kd0 2)) (noW ct (kd0 462))) (lenP rb 452 16 ct)) (lenP ra 1 1 ct)) (lcJ ct ak)
theorem lcB_ok {ct : Ctr} {ak : Nat} {ra rb : Bool} (hc : lcB ct ak ra rb = true) : lcJ ct ak = true ∧ lenP ra 1 1 ct = true ∧ lenP rb 452 16 ct = true ∧ noW ct (kd0 462) = true ∧ noW ct (kd0 2) = true := by
  obtain ⟨c1, hc⟩ := band (show (Bool.rec false (Bool.rec false (Bool.rec false (Bool.rec false (noW ct (kd0 2)) (noW ct (kd0 462))) (lenP rb 452 16 ct)) (lenP ra 1 1 ct)) (lcJ ct ak) : Bool) = true from hc)
  obtain ⟨c2, hc⟩ := band (show (Bool.rec false (Bool.rec false (Bool.rec false (noW ct (kd0 2)) (noW ct (kd0 462))) (lenP rb 452 16 ct)) (lenP ra 1 1 ct) : Bool) = true from hc)
  obtain ⟨c3, hc⟩ := band (show (Bool.rec false (Bool.rec false (noW ct (kd0 2)) (noW ct (kd0 462))) (lenP rb 452 16 ct) : Bool) = true from hc)
  obtain ⟨c4, c5⟩ := band (show (Bool.rec false (noW ct (kd0 2)) (noW ct (kd0 462)) : Bool) = true from hc)
  exact ⟨c1, c2, c3, c4, c5⟩
theorem calB9_of {call : Call} {E : Env9} {y ak : Nat} {ct : Ctr} {ra rb : Bool} {as : List AV} (h : CtrOK kd0 sh0 rt0 bd0 Inv0 E call y ct) (hc : lcB ct ak ra rb = true) (ha : asOK kd0 ct.1 as) : CalB9 call E y ak ra rb as := by
  intro M hJ
  obtain ⟨c1, c2, c3, c4, c5⟩ := lcB_ok hc
  obtain ⟨v, S, L, M', z', e, ⟨p, p1, p2, p3, p4⟩, J, hk⟩ := calG9_of h c1 ha M hJ
  exact ⟨v, S, L, M', z', e, ⟨p.2.1, p2, p3⟩, J, kb_of hJ.1 J.1 c2 c3 c5 c4 hk p1 p4⟩
/-- a call that answers an int, no more said -/
theorem calJ9_of {call : Call} {E : Env9} {y : Nat} {ct : Ctr} {as : List AV} (h : CtrOK kd0 sh0 rt0 bd0 Inv0 E call y ct) (hc : lcJ ct 0 = true) (ha : asOK kd0 ct.1 as) : ∀ M, JI M → ∃ v S L M' z', call y E 466 as M = some [((0, 0), E, v, S, L, M', 466, z')] ∧ (∃ x, x < 4294967296 ∧ v = vI x) ∧ JI M' := by
  intro M hJ
  obtain ⟨v, S, L, M', z', e, ⟨p, p1, p2, p3, p4⟩, J, hk⟩ := calG9_of h hc ha M hJ
  refine ⟨v, S, L, M', z', e, ?_, J⟩
  generalize p.2.1 = q at p2 p3
  obtain ⟨a, b, c⟩ := q
  cases p2
  obtain ⟨x, h1, h2, -⟩ := p3
  exact ⟨x, h2, h1⟩
/-- any ints as arguments -/
theorem aFull (x : Nat) (hx : x < 4294967296) : aOK kd0 (0, (-2147483648), 2147483647) (vI x) := ⟨x, rfl, hx, sg_lo x, sg_hi x⟩
theorem a0 : aOK kd0 (1, 0, 0) (vR 0) := ⟨rfl, by decide⟩
theorem a452 : aOK kd0 (1, 452, 0) (vR 452) := ⟨rfl, by decide⟩
theorem a465 : aOK kd0 (1, 465, 0) (vR 465) := ⟨rfl, by decide⟩
