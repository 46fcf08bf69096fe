section
/-! instructions as numbers: what they are for the small machine, for the symbolic run -/
abbrev Ins : Type := Nat × Nat × Nat × Nat × Nat × Nat × Nat
abbrev Tin : Type := Ins × List Nat
noncomputable def gB9 (a : Nat) : Nat → Nat → Nat := match a with | 0 => g_sub | 1 => g_imul | 2 => g_iand | 3 => g_ior | 4 => g_ixor | 5 => g_ishl | _ => g_ishr
noncomputable def gU9 (a : Nat) : Nat → Nat := match a with | 0 => g_ineg | 1 => g_i2b | _ => g_i2c
noncomputable def gS9 (a : Nat) : Nat → Nat → Nat := match a with | 0 => g_lshl | _ => g_lshr
noncomputable def dn (Z : Nat) (i : Ins) : Op1 := match i.1 with
  | 0 => op_push (vI i.2.1)
  | 1 => op_push (vJ i.2.1)
  | 2 => op_push (vW i.2.1)
  | 3 => op_push (vD i.2.1)
  | 4 => op_push (vF i.2.1)
  | 5 => op_ld (fP i.2.1) i.2.2.1
  | 6 => op_st (fP i.2.1) i.2.2.1
  | 7 => op_st2 (fP i.2.1) i.2.2.1
  | 8 => op_iinc i.2.1 i.2.2.1
  | 9 => op_add
  | 10 => op_bin (gB9 i.2.1)
  | 11 => op_un (gU9 i.2.1)
  | 12 => op_dup
  | 13 => op_dup2
  | 14 => op_pop
  | 15 => op_irem
  | 16 => op_i2l
  | 17 => op_l2i
  | 18 => op_lbin g_lor
  | 19 => op_lsh (gS9 i.2.1)
  | 20 => op_lcmp
  | 21 => op_getf i.2.1 i.2.2.1
  | 22 => op_putf (fP i.2.1) i.2.2.1 i.2.2.2.1
  | 23 => op_iald i.2.1
  | 24 => op_iast
  | 25 => op_bast
  | 26 => op_aald
  | 27 => op_lald
  | 28 => op_last
  | 29 => op_alen
  | 30 => op_copy
  | 31 => op_call (gN i.2.1) i.2.2.1 i.2.2.2.1 i.2.2.2.2.1 (i.2.2.2.2.2.1 + Z)
  | 32 => op_callX (gN i.2.1) i.2.2.1 i.2.2.2.1 i.2.2.2.2.1 (i.2.2.2.2.2.1 + Z)
  | 33 => op_i2d
  | 34 => op_i2f
  | 35 => op_f2d
  | 36 => op_ddiv
  | 37 => op_fdiv
  | _ => op_fail
noncomputable def dtm (Z : Nat) (i : Tin) : Trm := match i.1.1 with
  | 0 => tm_goto i.1.2.1
  | 1 => tm_icmp i.1.2.1 i.1.2.2.1 i.1.2.2.2.1
  | 2 => tm_if i.1.2.1 i.1.2.2.1 i.1.2.2.2.1
  | 3 => tm_switch i.1.2.1 i.2
  | 4 => tm_ret (fP i.1.2.1) (i.1.2.2.1 + Z)
  | 5 => tm_vret (i.1.2.1 + Z)
  | 6 => tm_throw i.1.2.1 (i.1.2.2.1 + Z)
  | 7 => tm_callH (gN i.1.2.1) i.1.2.2.1 i.1.2.2.2.1 i.1.2.2.2.2.1 (i.1.2.2.2.2.2.1 + Z) i.1.2.2.2.2.2.2 i.2
  | _ => tm_fail
section TYPING
variable (kd : Nat → Nat) (sh : Nat → Sh) (rt : Nat → Nat → Nat) (bd : Nat → Int → Int × Int) (un : Nat → Bool) (Wp PR : Nat → Int → Bool)
noncomputable def x_fail : (SS → SR) → SS → SR := fun _ _ => none
noncomputable def xb9 (a : Nat) : YE → Aff → Aff → YE × Aff := match a with | 0 => fun E x y => yadd E (-1) x y | 1 => ymul | 2 => yand | _ => fun E _ _ => yfull E
noncomputable def xu9 (a : Nat) : YE → Aff → YE × Aff := match a with | 0 => fun E x => yfit E (x.1, (-1) * x.2.1, (-1) * x.2.2) | 1 => ycut (-128) 127 | _ => ycut 0 65535
noncomputable def xi (i : Ins) : XOp := match i.1 with
  | 0 => fun _ k σ => gdS (Nat.ble (i.2.1 + 1) 4294967296) (x_push (sI (0, 0, sg i.2.1)) k σ)
  | 1 => fun _ => x_push (sJ (0, 0, lsg i.2.1))
  | 2 => fun _ => x_push (sW i.2.1)
  | 3 => fun _ => x_push (sT 1)
  | 4 => fun _ => x_push (sT (match i.2.1 with | 0 => 8 | _ => 2))
  | 5 => fun _ => x_ld i.2.1 i.2.2.1
  | 6 => fun _ => x_st i.2.1 i.2.2.1
  | 7 => fun _ => x_st2 i.2.1 i.2.2.1
  | 8 => fun _ => x_iinc i.2.1 (sg i.2.2.1)
  | 9 => fun _ => x_2 (fun E x y => yadd E 1 x y)
  | 10 => fun _ => x_2 (xb9 i.2.1)
  | 11 => fun _ => x_1 (xu9 i.2.1)
  | 12 => fun _ => x_dup
  | 13 => fun _ => x_dup2
  | 14 => fun _ => x_pop
  | 15 => fun _ => x_irem
  | 16 => fun _ => x_i2l
  | 17 => fun _ => x_l2i
  | 18 => fun _ => x_lb 1
  | 19 => fun _ => x_lb 0
  | 20 => fun _ => x_lcmp
  | 21 => fun _ => x_getf kd sh rt bd i.2.1 i.2.2.1
  | 22 => fun _ => x_putf kd sh bd Wp PR i.2.1 i.2.2.1 i.2.2.2.1
  | 23 => fun _ => x_iald kd sh bd un i.2.1
  | 24 => fun _ => x_ast kd sh bd un Wp PR false
  | 25 => fun _ => x_ast kd sh bd un Wp PR true
  | 26 => fun _ => x_aald kd sh rt
  | 27 => fun _ => x_lald kd sh
  | 28 => fun _ => x_last kd sh Wp PR
  | 29 => fun _ => x_alen kd sh
  | 30 => fun _ => x_copy kd sh bd Wp PR
  | 31 => fun xc => x_call kd sh false i.2.1 i.2.2.1 i.2.2.2.1 i.2.2.2.2.1 i.2.2.2.2.2.1 xc
  | 32 => fun xc => x_call kd sh true i.2.1 i.2.2.1 i.2.2.2.1 i.2.2.2.2.1 i.2.2.2.2.2.1 xc
  | 33 => fun _ => x_i2x 4
  | 34 => fun _ => x_i2x 6
  | 35 => fun _ => x_f2d
  | 36 => fun _ => x_div 4 1
  | 37 => fun _ => x_div 6 8
  | _ => fun _ => x_fail
noncomputable def xtm (i : Tin) : XTr := match i.1.1 with
  | 0 => fun _ => x_goto i.1.2.1
  | 1 => fun _ => x_icmp i.1.2.1 i.1.2.2.1 i.1.2.2.2.1
  | 2 => fun _ => x_if i.1.2.1 i.1.2.2.1 i.1.2.2.2.1
  | 3 => fun _ xj σ => gdS (Nat.ble (ylen i.2) 100000) (x_switch i.1.2.1 i.2 xj σ)
  | 4 => fun _ _ => x_ret i.1.2.1 i.1.2.2.1
  | 5 => fun _ _ => x_vret i.1.2.1
  | 6 => fun _ _ => x_throw i.1.2.1 i.1.2.2.1
  | 7 => fun xc => x_callH kd sh i.1.2.1 i.1.2.2.1 i.1.2.2.2.1 i.1.2.2.2.2.1 i.1.2.2.2.2.2.1 i.1.2.2.2.2.2.2 i.2 xc
  | _ => fun _ _ _ => none
variable {kd sh rt bd un Wp PR} {Inv : Mem → Prop} {M0 : Mem} {Ev : Env9} {Zo Z : Nat}
theorem ks_fail {B : List Int} {c : Nat} {P : Res → Prop} {K : KK} {k : SS → SR} : KS kd sh rt bd Wp Inv M0 Ev Zo B c P K (x_fail k) := fun σ c' os h => nomatch (show (none : SR) = some (c', os) from h)
theorem ishl_lt (x y : Nat) : g_ishl x y < 4294967296 := toN_lt _
theorem xi_ok (hu : ∀ κ v, un κ = true → bd κ v = bd κ 0) (hI : Hang kd PR Inv) (hZ : Zo ≤ Z) (i : Ins) : SOP kd sh rt bd Wp Inv M0 Ev Zo (xi kd sh rt bd un Wp PR i) (dn Z i) := by
  obtain ⟨o, a, b, c9, d, e, f⟩ := i
  intro call xc B c P K k hC hK
  match o with
  | 0 =>
    intro σ c' os h
    obtain ⟨h1, h⟩ := gdS_some (show gdS (Nat.ble (a + 1) 4294967296) _ = _ from h)
    exact s_push (call := call) (a := sI (0, 0, sg a)) (v := vI a) (fun G => ⟨a, rfl, Nat.le_of_ble_eq_true h1, yev_c⟩) hK σ c' os h
  | 1 => exact s_push (call := call) (fun G => ⟨a, rfl, yev_c⟩) hK
  | 2 => exact s_push (call := call) (fun G => rfl) hK
  | 3 => exact s_push (call := call) (fun G => ⟨a, rfl⟩) hK
  | 4 =>
    match a with
    | 0 => exact s_push (call := call) (a := sT 8) (v := vF 0) (fun G => ⟨0, rfl, by decide⟩) hK
    | a + 1 => exact s_push (call := call) (a := sT 2) (v := vF (a + 1)) (fun G => ⟨a + 1, rfl⟩) hK
  | 5 => exact s_ld (call := call) hK
  | 6 => exact s_st (call := call) hK
  | 7 => exact s_st2 (call := call) hK
  | 8 => exact s_iinc (call := call) hK
  | 9 => exact s_add (call := call) hK
  | 10 =>
    match a with
    | 0 => exact s_sub (call := call) hK
    | 1 => exact s_mul (call := call) hK
    | 2 => exact s_and (call := call) hK
    | 3 => exact s_any2 (call := call) (g := g_ior) (fun _ _ => toN_lt _) hK
    | 4 => exact s_any2 (call := call) (g := g_ixor) (fun _ _ => toN_lt _) hK
    | 5 => exact s_any2 (call := call) (g := g_ishl) (fun _ _ => toN_lt _) hK
    | a + 6 => exact s_any2 (call := call) (g := g_ishr) (fun _ _ => toN_lt _) hK
  | 11 =>
    match a with
    | 0 => exact s_neg (call := call) hK
    | 1 => exact s_i2b (call := call) hK
    | a + 2 => exact s_i2c (call := call) hK
  | 12 => exact s_dup (call := call) hK
  | 13 => exact s_dup2 (call := call) hK
  | 14 => exact s_pop (call := call) hK
  | 15 => exact s_irem (call := call) hK
  | 16 => exact s_i2l (call := call) hK
  | 17 => exact s_l2i (call := call) hK
  | 18 => exact s_lbin (call := call) hK
  | 19 => exact s_lsh (call := call) hK
  | 20 => exact s_lcmp (call := call) hK
  | 21 => exact s_getf (call := call) hK
  | 22 => exact s_putf (call := call) hI hK
  | 23 => exact s_iald (call := call) hu hK
  | 24 => exact s_ast (call := call) hu hI hK false
  | 25 => exact s_ast (call := call) hu hI hK true
  | 26 => exact s_aald (call := call) hK
  | 27 => exact s_lald (call := call) hK
  | 28 => exact s_last (call := call) hI hK
  | 29 => exact s_alen (call := call) hK
  | 30 => exact s_copy (call := call) hI hK
  | 31 => exact s_call (call := call) (tx := false) (by show Zo + e ≤ e + Z; omega) hC hK
  | 32 => exact s_call (call := call) (tx := true) (by show Zo + e ≤ e + Z; omega) hC hK
  | 33 => exact s_i2d (call := call) hK
  | 34 => exact s_i2f (call := call) hK
  | 35 => exact s_f2d (call := call) hK
  | 36 => exact s_ddiv (call := call) hK
  | 37 => exact s_fdiv (call := call) hK
  | o + 38 => exact ks_fail (k := k)
theorem xtm_ok (hZ : Zo ≤ Z) (i : Tin) : STR kd sh rt bd Wp Inv M0 Ev Zo (xtm kd sh i) (dtm Z i) := by
  obtain ⟨⟨o, a, b, c9, d, e, f⟩, l⟩ := i
  intro call xc B c P j xj hC hj
  match o with
  | 0 => exact s_goto (call := call) hj
  | 1 => exact s_icmp (call := call) hj
  | 2 => exact s_if (call := call) hj
  | 3 =>
    intro σ c' os h
    obtain ⟨h1, h⟩ := gdS_some (show gdS (Nat.ble (ylen l) 100000) _ = _ from h)
    rw [ylen_eq] at h1
    exact s_switch (call := call) (Nat.le_of_ble_eq_true h1) hj σ c' os h
  | 4 => exact s_ret (call := call) (j := j) (by show Zo + b ≤ b + Z; omega)
  | 5 => exact s_vret (call := call) (j := j) (by show Zo + a ≤ a + Z; omega)
  | 6 => exact s_throw (call := call) (j := j) (by show Zo + b ≤ b + Z; omega)
  | 7 => exact s_callH (call := call) (by show Zo + e ≤ e + Z; omega) hC hj
  | o + 8 => exact fun σ c' os h => nomatch (show (none : SR) = some (c', os) from h)
/-- a block, as numbers -/
abbrev DB : Type := List Ins × Tin
noncomputable def dnL (Z : Nat) (l : List Ins) : List Op1 := List.rec [] (fun i _ ih => dn Z i :: ih) l
noncomputable def dnB (Z : Nat) (q : DB) : Blk := (dnL Z q.1, dtm Z q.2)
noncomputable def xiL (kd : Nat → Nat) (sh : Nat → Sh) (rt : Nat → Nat → Nat) (bd : Nat → Int → Int × Int) (un : Nat → Bool) (Wp PR : Nat → Int → Bool) (l : List Ins) : List XOp := List.rec [] (fun i _ ih => xi kd sh rt bd un Wp PR i :: ih) l
noncomputable def xiB (kd : Nat → Nat) (sh : Nat → Sh) (rt : Nat → Nat → Nat) (bd : Nat → Int → Int × Int) (un : Nat → Bool) (Wp PR : Nat → Int → Bool) (q : DB) : XBl := (xiL kd sh rt bd un Wp PR q.1, xtm kd sh q.2)
theorem xiB_ok (hu : ∀ κ v, un κ = true → bd κ v = bd κ 0) (hI : Hang kd PR Inv) (hZ : Zo ≤ Z) (q : DB) : SBL kd sh rt bd Wp Inv M0 Ev Zo (xiB kd sh rt bd un Wp PR q) (dnB Z q) := by
  refine ⟨xtm_ok hZ q.2, ?_⟩
  show Fa2 _ (xiL kd sh rt bd un Wp PR q.1) (dnL Z q.1)
  induction q.1 with
  | nil => trivial
  | cons a l ih => exact ⟨xi_ok hu hI hZ a, ih⟩
end TYPING
end
section
/-! contracts; methods by depth -/
/-- an argument: 0 an int within, 1 this cell, 2 some cell of this kind, 3 a long, 4 what has this name -/
abbrev APt : Type := Nat × Int × Int
abbrev Fct : Type := (RK × Aff) × Int × Int
abbrev Sct : Type := (RK × Aff) × (RK × Aff) × Int × Int × Int
/-- an end: which; its answer (0 an int within, 1 none, from 2 on as the symbolic values' last kind); facts; sums -/
abbrev Pst : Type := (Nat × Nat) × (Nat × Int × Int) × List Fct × List Sct
abbrev Ctr : Type := List APt × List Fct × List Sct × Wrg × List Pst
noncomputable def inW (w : Wrg) (κ : Nat) (v : Int) : Bool := List.rec false (fun a _ ih => Bool.rec ih true (Bool.rec false (Bool.rec false (ile v a.2.2) (ile a.2.1 v)) (Nat.beq a.1 κ))) w
theorem inW_mem {κ : Nat} {v : Int} : ∀ {w : Wrg}, inW w κ v = true → ∃ a ∈ w, a.1 = κ ∧ a.2.1 ≤ v ∧ v ≤ a.2.2 := by
  intro w
  induction w with
  | nil => intro h; cases h
  | cons a w ih =>
    intro h
    have h : (Bool.rec (inW w κ v) true (Bool.rec false (Bool.rec false (ile v a.2.2) (ile a.2.1 v)) (Nat.beq a.1 κ)) : Bool) = true := h
    cases hb : (Bool.rec false (Bool.rec false (ile v a.2.2) (ile a.2.1 v)) (Nat.beq a.1 κ) : Bool) with
    | true =>
      obtain ⟨k1, k2⟩ := band hb
      obtain ⟨k2, k3⟩ := band k2
      exact ⟨a, List.mem_cons_self, Nat.eq_of_beq_eq_true k1, ile_iff.mp k2, ile_iff.mp k3⟩
    | false =>
      rw [hb] at h
      obtain ⟨a', h1, h2⟩ := ih h
      exact ⟨a', List.mem_cons_of_mem _ h1, h2⟩
theorem inW_of {κ : Nat} {v : Int} {a : Nat × Int × Int} (h1 : a.1 = κ) (h2 : a.2.1 ≤ v) (h3 : v ≤ a.2.2) : ∀ {w : Wrg}, a ∈ w → inW w κ v = true := by
  intro w
  induction w with
  | nil => intro h; cases h
  | cons d w ih =>
    intro h
    show (Bool.rec (inW w κ v) true (Bool.rec false (Bool.rec false (ile v d.2.2) (ile d.2.1 v)) (Nat.beq d.1 κ)) : Bool) = true
    rcases List.mem_cons.mp h with e | e
    · subst e
      rw [h1, Nat.beq_refl, ile_iff.mpr h2, ile_iff.mpr h3]
    · rw [ih e]
      cases (Bool.rec false (Bool.rec false (ile v d.2.2) (ile d.2.1 v)) (Nat.beq d.1 κ) : Bool) <;> rfl
section CTR
variable {kd : Nat → Nat} {sh : Nat → Sh} {rt : Nat → Nat → Nat} {bd : Nat → Int → Int × Int} {un : Nat → Bool} {Wp PR : Nat → Int → Bool} {Inv : Mem → Prop} {M0 : Mem} {Ev : Env9}
def aOK (kd : Nat → Nat) (p : APt) (v : AV) : Prop := match p.1 with
  | 0 => ∃ x, v = vI x ∧ x < 4294967296 ∧ p.2.1 ≤ sg x ∧ sg x ≤ p.2.2
  | 1 => v = vR p.2.1.toNat ∧ p.2.1.toNat < 466
  | 2 => ∃ k, v = vR k ∧ k < 466 ∧ kd k = p.2.1.toNat
  | 3 => ∃ x, v = vJ x
  | _ => v = vW p.2.1.toNat
def asOK (kd : Nat → Nat) : List APt → List AV → Prop
  | [], [] => True
  | p :: l, v :: w => aOK kd p v ∧ asOK kd l w
  | _, _ => False
def rOK (a : Nat × Int × Int) (v : AV) : Prop := match a.1 with
  | 0 => ∃ x, v = vI x ∧ x < 4294967296 ∧ a.2.1 ≤ sg x ∧ sg x ≤ a.2.2
  | 1 => True
  | t + 2 => sv (fun _ => 0) [] (sT t) v
def pOK (kd : Nat → Nat) (p : Pst) (r : Res) : Prop := r.1 = p.1 ∧ (r.1.1 = 0 → rOK p.2.1 r.2.2.1) ∧ PrFa kd [] p.2.2.1 r.2.2.2.2.2.1 ∧ PrSu kd [] p.2.2.2 r.2.2.2.2.2.1
def CtrOK (kd : Nat → Nat) (sh : Nat → Sh) (rt : Nat → Nat → Nat) (bd : Nat → Int → Int × Int) (Inv : Mem → Prop) (Ev : Env9) (call : Call) (y : Nat) (ct : Ctr) : Prop := ∀ (vs : List AV) (M : Mem), asOK kd ct.1 vs → PrFa kd [] ct.2.1 M → PrSu kd [] ct.2.2.1 M → TI kd sh rt bd M → Inv M →
  OKo (call y Ev 466 vs M) (fun r => r.2.1 = Ev ∧ r.2.2.2.2.2.2.1 = 466 ∧ TI kd sh rt bd r.2.2.2.2.2.1 ∧ Inv r.2.2.2.2.2.1 ∧ (∀ k : Nat, k < 466 → ∀ i : Nat, inW ct.2.2.2.1 (kd k) i = false → rdI r.2.2.2.2.2.1 k i = rdI M k i) ∧ ∃ p ∈ ct.2.2.2.2, pOK kd p r)
noncomputable def ymA (kd : Nat → Nat) (E : YE) (p : APt) (a : SV) : Bool := match p.1 with
  | 0 => (match a with | .inl q => yin (yrg E q) p.2 | _ => false)
  | 1 => (match a with | .inr (.inr (.inl r)) => (match r with | .inl c => Nat.beq c p.2.1.toNat | _ => false) | _ => false)
  | 2 => (match a with | .inr (.inr (.inl r)) => Nat.beq (kdR kd r) p.2.1.toNat | _ => false)
  | 3 => sP E 1 a
  | _ => (match a with | .inr (.inr (.inr (.inl w))) => Nat.beq w p.2.1.toNat | _ => false)
theorem ymA_ok {G : List Int} {E : YE} (hE : yenv G E) {p : APt} {a : SV} {v : AV} (h : ymA kd E p a = true) (hv : sv kd G a v) : aOK kd p v := by
  obtain ⟨c, lo, hi⟩ := p
  match c, h with
  | 0, h =>
    rcases a with q | q | r | w | q | t
    · obtain ⟨x, e1, e2, e3⟩ := hv
      obtain ⟨b1, b2⟩ := yin_ok hE e3 h
      exact ⟨x, e1, e2, b1, b2⟩
    all_goals cases h
  | 1, h =>
    rcases a with q | q | r | w | q | t
    · cases h
    · cases h
    · obtain ⟨k, e1, e2⟩ := hv
      rcases r with cc | q
      · have h : cc = lo.toNat := Nat.eq_of_beq_eq_true h
        have e3 : k = cc := e2.2
        show v = vR lo.toNat ∧ lo.toNat < 466
        rw [← h, ← e3]
        exact ⟨e1, e2.1⟩
      · cases h
    all_goals cases h
  | 2, h =>
    rcases a with q | q | r | w | q | t
    · cases h
    · cases h
    · obtain ⟨k, e1, e2⟩ := hv
      have h : kdR kd r = lo.toNat := Nat.eq_of_beq_eq_true h
      exact ⟨k, e1, e2.1, by rw [rkc_kd e2]; exact h⟩
    all_goals cases h
  | 3, h => exact sP1_J (E := E) h hv
  | c + 4, h =>
    rcases a with q | q | r | w | q | t
    · cases h
    · cases h
    · cases h
    · have h : w = lo.toNat := Nat.eq_of_beq_eq_true h
      show v = vW lo.toNat
      rw [← h]
      exact hv
    all_goals cases h
noncomputable def ymAs (kd : Nat → Nat) (E : YE) (l : List APt) : List SV → Bool := List.rec (motive := fun _ => List SV → Bool) (fun m => match m with | [] => true | _ => false) (fun p _ ih m => match m with | a :: m => Bool.rec false (ih m) (ymA kd E p a) | [] => false) l
theorem ymAs_ok {G : List Int} {E : YE} (hE : yenv G E) : ∀ {l : List APt} {m : List SV} {w : List AV}, ymAs kd E l m = true → svs kd G m w → asOK kd l w := by
  intro l
  induction l with
  | nil =>
    intro m w h hm
    cases m with
    | nil => obtain rfl := svs_nil hm; trivial
    | cons _ _ => cases h
  | cons p l ih =>
    intro m w h hm
    cases m with
    | nil => cases h
    | cons a m =>
      obtain ⟨h1, h2⟩ := band (show (Bool.rec false (ymAs kd E l m) (ymA kd E p a) : Bool) = true from h)
      obtain ⟨v, w', rfl, g1, g2⟩ := svs_cons hm
      exact ⟨ymA_ok hE h1 g1, ih h2 g2⟩
/-- all that may be written there may be written here -/
noncomputable def ywsub (Wp : Nat → Int → Bool) (w : Wrg) : Bool := List.rec true (fun a _ ih => Bool.rec false ih (yall (a.2.2 + 1 - a.2.1).toNat a.2.1 (Wp a.1))) w
theorem ywsub_ok : ∀ {w : Wrg}, ywsub Wp w = true → ∀ κ v, inW w κ v = true → Wp κ v = true := by
  intro w
  induction w with
  | nil => intro _ κ v h; cases h
  | cons a w ih =>
    intro h κ v hv
    obtain ⟨h1, h2⟩ := band (show (Bool.rec false (ywsub Wp w) (yall (a.2.2 + 1 - a.2.1).toNat a.2.1 (Wp a.1)) : Bool) = true from h)
    obtain ⟨b, m1, m2, m3, m4⟩ := inW_mem hv
    rcases List.mem_cons.mp m1 with e | e
    · subst e
      rw [← m2]
      exact yall_ok h1 v m3 (by omega)
    · exact ih h2 κ v (inW_of m2 m3 m4 e)
theorem yout1_ok {G : List Int} {E : YE} (hE : yenv G E) {h : (RK × Aff) × Aff} {k i : Nat} (h1 : rkc kd G h.1.1 k) (h2 : yev G h.1.2 = some (i : Int)) : ∀ {w : Wrg}, yout1 kd E w h = true → inW w (kd k) i = false := by
  intro w hw
  cases hi : inW w (kd k) i with
  | false => rfl
  | true =>
    obtain ⟨a, m1, m2, m3, m4⟩ := inW_mem hi
    induction w with
    | nil => cases m1
    | cons d w ih =>
      obtain ⟨k1, k2⟩ := band (show (Bool.rec false (yout1 kd E w h) (Bool.rec true (match yrg E h.1.2 with | some r => Bool.rec (ile (d.2.2 + 1) r.1) true (ile (r.2 + 1) d.2.1) | none => false) (Nat.beq d.1 (kdR kd h.1.1))) : Bool) = true from hw)
      rcases List.mem_cons.mp m1 with e | e
      · subst e
        rw [m2, rkc_kd h1, Nat.beq_refl] at k1
        have k1 : (match yrg E h.1.2 with | some r => Bool.rec (ile (a.2.2 + 1) r.1) true (ile (r.2 + 1) a.2.1) | none => false : Bool) = true := k1
        cases hr : yrg E h.1.2 with
        | none => rw [hr] at k1; cases k1
        | some r =>
          rw [hr] at k1
          have q1 := yrg_ok hE h2 hr
          have k1 : (Bool.rec (ile (a.2.2 + 1) r.1) true (ile (r.2 + 1) a.2.1) : Bool) = true := k1
          cases hx : ile (r.2 + 1) a.2.1 with
          | true => have := ile_iff.mp hx; omega
          | false => rw [hx] at k1; have := ile_iff.mp (show ile (a.2.2 + 1) r.1 = true from k1); omega
      · exact ih k2 (inW_of m2 m3 m4 e) e
theorem yout_mem {E : YE} {w : Wrg} : ∀ {H : OV} {h : (RK × Aff) × Aff}, h ∈ yout kd E w H → h ∈ H ∧ yout1 kd E w h = true := by
  intro H
  induction H with
  | nil => intro h hm; cases hm
  | cons q H ih =>
    intro h hm
    have hm : h ∈ (Bool.rec (yout kd E w H) (q :: yout kd E w H) (yout1 kd E w q) : OV) := hm
    cases hb : yout1 kd E w q with
    | false => rw [hb] at hm; obtain ⟨h1, h2⟩ := ih hm; exact ⟨List.mem_cons_of_mem _ h1, h2⟩
    | true =>
      rw [hb] at hm
      rcases List.mem_cons.mp hm with e | e
      · rw [e]; exact ⟨List.mem_cons_self, hb⟩
      · obtain ⟨h1, h2⟩ := ih e; exact ⟨List.mem_cons_of_mem _ h1, h2⟩
/-- an end, as the caller has it -/
noncomputable def ypo (t : Nat × Nat) (a : Nat × Int × Int) (E : YE) (H : OV) : List Out := match a.1 with
  | 0 => [(t, (yfresh E a.2.1 a.2.2).1, sI (yfresh E a.2.1 a.2.2).2, H, 0)]
  | 1 => [(t, E, sT 0, H, 0)]
  | u + 2 => [(t, E, sT u, H, 0)]
/-- places that are alike: the second, where nothing is known of it, has the first one's number -/
noncomputable def yhE (l : List Sct) (H : OV) : OV := List.rec (motive := fun _ => OV) H (fun a _ ih => match yfd a.1.1 a.1.2 H with
  | some x => (match yfd a.2.1.1 a.2.1.2 H with
    | none => Bool.rec ih ((a.2.1, x) :: ih) (Bool.rec false (Bool.rec false (ieq a.2.2.2.2 0) (ieq a.2.2.2.1 0)) (ieq a.2.2.1 (-1)))
    | some _ => ih)
  | none => ih) l
theorem yhE_ok {kd : Nat → Nat} {G : List Int} {M : Mem} {H : OV} : ∀ {l : List Sct}, ovl kd G H M → PrSu kd G l M → ovl kd G (yhE l H) M := by
  intro l
  induction l with
  | nil => intro h _; exact h
  | cons a l ih =>
    intro h h3
    have any := ih h (fun b hb => h3 b (List.mem_cons_of_mem _ hb))
    show ovl kd G (match yfd a.1.1 a.1.2 H with
      | some x => (match yfd a.2.1.1 a.2.1.2 H with
        | none => Bool.rec (yhE l H) ((a.2.1, x) :: yhE l H) (Bool.rec false (Bool.rec false (ieq a.2.2.2.2 0) (ieq a.2.2.2.1 0)) (ieq a.2.2.1 (-1)))
        | some _ => yhE l H)
      | none => yhE l H : OV) M
    cases hx : yfd a.1.1 a.1.2 H with
    | none => exact any
    | some x =>
      cases hy : yfd a.2.1.1 a.2.1.2 H with
      | some y => exact any
      | none =>
        show ovl kd G (Bool.rec (yhE l H) ((a.2.1, x) :: yhE l H) (Bool.rec false (Bool.rec false (ieq a.2.2.2.2 0) (ieq a.2.2.2.1 0)) (ieq a.2.2.1 (-1)) : Bool) : OV) M
        cases hb : (Bool.rec false (Bool.rec false (ieq a.2.2.2.2 0) (ieq a.2.2.2.1 0)) (ieq a.2.2.1 (-1)) : Bool) with
        | false => exact any
        | true =>
          obtain ⟨b1, b2⟩ := band hb
          obtain ⟨b2, b3⟩ := band b2
          have b1 := ieq_iff.mp b1
          have b2 := ieq_iff.mp b2
          have b3 := ieq_iff.mp b3
          obtain ⟨k, i, k', i', q1, q2, q3, q4⟩ := h3 a List.mem_cons_self
          obtain ⟨k1, i1, p1, p2, p3⟩ := h _ (yfd_mem hx)
          obtain ⟨e1, e2⟩ := pl_fun (q := a.1) ⟨p1, p2⟩ q1
          subst e1
          subst e2
          rw [b1, b2] at q3
          rw [b1, b3] at q4
          have e : rdI M k1 i1 = rdI M k' i' := by omega
          intro h9 hm
          have hm : h9 ∈ (a.2.1, x) :: yhE l H := hm
          rcases List.mem_cons.mp hm with w | w
          · subst w
            exact ⟨k', i', q2.1, q2.2, by rw [← e]; exact p3⟩
          · exact any h9 w
noncomputable def ypst (E : YE) (H : OV) (p : Pst) : List Out := match yhS p.2.2.2 (yhH p.2.2.1 (E, H)).2 (yhH p.2.2.1 (E, H)).1 with
  | some E' => ypo p.1 p.2.1 E' (yhE p.2.2.2 (yhH p.2.2.1 (E, H)).2)
  | none => []
noncomputable def ypsts (E : YE) (H : OV) (l : List Pst) : List Out := List.rec (motive := fun _ => List Out) [] (fun p _ ih => ypst E H p ++ ih) l
theorem ypsts_mem {E : YE} {H : OV} {p : Pst} {o : Out} (ho : o ∈ ypst E H p) : ∀ {l : List Pst}, p ∈ l → o ∈ ypsts E H l := by
  intro l
  induction l with
  | nil => intro h; cases h
  | cons a l ih =>
    intro h
    rcases List.mem_cons.mp h with e | e
    · rw [← e]; exact List.mem_append_left _ ho
    · exact List.mem_append_right _ (ih e)
/-- no int that the caller waits for is missing -/
noncomputable def ypsok (l : List Pst) : Bool := List.rec true (fun p _ ih => Bool.rec false ih (match p.2.1.1 with | 0 => Nat.beq p.1.1 0 | 1 => Nat.ble 1 p.1.1 | _ => true)) l
theorem ypsok_mem {p : Pst} : ∀ {l : List Pst}, ypsok l = true → p ∈ l → (match p.2.1.1 with | 0 => Nat.beq p.1.1 0 | 1 => Nat.ble 1 p.1.1 | _ => true : Bool) = true := by
  intro l
  induction l with
  | nil => intro _ h; cases h
  | cons a l ih =>
    intro h hm
    obtain ⟨h1, h2⟩ := band (show (Bool.rec false (ypsok l) (match a.2.1.1 with | 0 => Nat.beq a.1.1 0 | 1 => Nat.ble 1 a.1.1 | _ => true) : Bool) = true from h)
    rcases List.mem_cons.mp hm with e | e
    · rw [e]; exact h1
    · exact ih h2 e
noncomputable def yctr0 (kd : Nat → Nat) (Wp : Nat → Int → Bool) (ct : Ctr) (E : YE) (as : List SV) (H : OV) : Option (List Out) := Bool.rec none (some (ypsts E (yout kd E ct.2.2.2.1 H) ct.2.2.2.2)) (Bool.rec false (Bool.rec false (Bool.rec false (Bool.rec false (ypsok ct.2.2.2.2) (ywsub Wp ct.2.2.2.1)) (yckS 0 E H ct.2.2.1)) (yckF 0 E H ct.2.1)) (ymAs kd E ct.1 as))
noncomputable def yctr (kd : Nat → Nat) (sh : Nat → Sh) (bd : Nat → Int → Int × Int) (Wp : Nat → Int → Bool) (ct : Ctr) (E : YE) (as : List SV) (H : OV) : Option (List Out) := yctr0 kd Wp ct (ymat kd sh bd ct.2.1 (E, H)).1 as (ymat kd sh bd ct.2.1 (E, H)).2
theorem sT_any {kd kd' : Nat → Nat} {G G' : List Int} {t : Nat} {v : AV} (h : sv kd G (sT t) v) : sv kd' G' (sT t) v := h
theorem prFa_up {kd : Nat → Nat} {G : List Int} {l : List Fct} {M : Mem} (h : PrFa kd [] l M) : PrFa kd G l M := fun a ha => by
  obtain ⟨k, i, h1, h2⟩ := h a ha
  exact ⟨k, i, pl_mono (List.nil_prefix) h1, h2⟩
theorem prSu_up {kd : Nat → Nat} {G : List Int} {l : List Sct} {M : Mem} (h : PrSu kd [] l M) : PrSu kd G l M := fun a ha => by
  obtain ⟨k, i, k', i', h1, h2, h3⟩ := h a ha
  exact ⟨k, i, k', i', pl_mono (List.nil_prefix) h1, pl_mono (List.nil_prefix) h2, h3⟩
theorem yctr0_ok {call : Call} {y : Nat} {ct : Ctr} (hct : CtrOK kd sh rt bd Inv Ev call y ct) {E : YE} {as : List SV} {H : OV} {os : List Out} (h : yctr0 kd Wp ct E as H = some os) {G : List Int} {vs : List AV} {M : Mem} {P : Res → Prop} (hE : yenv G E) (hv : svs kd G as vs) (hH : ovl kd G H M) (hM : GM kd sh rt bd Wp Inv M0 M) (ho : ∀ o ∈ os, OutP kd sh rt bd Wp Inv M0 Ev G P o) : OKo (call y Ev 466 vs M) P := by
  unfold yctr0 at h
  cases hb : (Bool.rec false (Bool.rec false (Bool.rec false (Bool.rec false (ypsok ct.2.2.2.2) (ywsub Wp ct.2.2.2.1)) (yckS 0 E H ct.2.2.1)) (yckF 0 E H ct.2.1)) (ymAs kd E ct.1 as) : Bool) with
  | false => rw [hb] at h; cases h
  | true =>
    rw [hb] at h
    cases h
    obtain ⟨k1, hb⟩ := band hb
    obtain ⟨k2, hb⟩ := band hb
    obtain ⟨k3, hb⟩ := band hb
    obtain ⟨k4, k5⟩ := band hb
    have hp : ([] : List Int) <+: G := List.nil_prefix
    obtain ⟨r, e, r1, r2, r3, r4, r5, p, m1, m2, m3, m4, m5⟩ := hct vs M (ymAs_ok hE k1 hv) (yckF_ok hp hE hH k2) (yckS_ok hp hE hH k3) hM.1 hM.2.1
    refine ⟨r, e, ?_⟩
    have hH2 : ovl kd G (yout kd E ct.2.2.2.1 H) r.2.2.2.2.2.1 := by
      intro h9 hm
      obtain ⟨q1, q2⟩ := yout_mem hm
      obtain ⟨k', i', u1, u2, u3⟩ := hH h9 q1
      exact ⟨k', i', u1, u2, by rw [r5 k' u1.1 i' (yout1_ok hE u1 u2 q2)]; exact u3⟩
    have hG : GM kd sh rt bd Wp Inv M0 r.2.2.2.2.2.1 := by
      refine ⟨r3, r4, fun k' hk' i' hi' => ?_⟩
      rw [r5 k' hk' i' ?_]
      · exact hM.2.2 k' hk' i' hi'
      · cases hw : inW ct.2.2.2.1 (kd k') i' with
        | false => rfl
        | true => rw [ywsub_ok k4 _ _ hw] at hi'; cases hi'
    obtain ⟨G1, g1, g2, g3, -⟩ := yhH_ok (p := (E, yout kd E ct.2.2.2.1 H)) hE hH2 (prFa_up m4)
    obtain ⟨E2, G2, u1, u2, u3⟩ := yhS_ok g2 g3 (prSu_up m5)
    have hps := ypsok_mem k5 m1
    have g4 := yhE_ok g3 (prSu_up m5)
    have eo : ypst E (yout kd E ct.2.2.2.1 H) p = ypo p.1 p.2.1 E2 (yhE p.2.2.2 (yhH p.2.2.1 (E, yout kd E ct.2.2.2.1 H)).2) := by
      unfold ypst
      rw [u1]
    have fin : ∀ (o : Out), o ∈ ypo p.1 p.2.1 E2 (yhE p.2.2.2 (yhH p.2.2.1 (E, yout kd E ct.2.2.2.1 H)).2) → OutP kd sh rt bd Wp Inv M0 Ev G P o := fun o hm => ho o (ypsts_mem (by rw [eo]; exact hm) m1)
    have hG1 := g1.trans u2
    have hov := ovl_mono u2 g4
    generalize yhE p.2.2.2 (yhH p.2.2.1 (E, yout kd E ct.2.2.2.1 H)).2 = H9 at fin hov
    clear eo g3 g4 u1 m1 m4 m5 k5 g1 u2 hH2
    obtain ⟨t, ⟨c, lo, hi⟩, fs, ss⟩ := p
    have m2 : r.1 = t := m2
    match c, m3, hps, fin with
    | 0, m3, hps, fin =>
      have hps : t.1 = 0 := Nat.eq_of_beq_eq_true hps
      obtain ⟨x, x1, x2, x3, x4⟩ := m3 (by rw [m2]; exact hps)
      obtain ⟨f1, f2⟩ := yfresh_ok u3 x3 x4
      have hp2 : G2 <+: G2 ++ [sg x] := List.prefix_append _ _
      exact fin _ List.mem_cons_self (G2 ++ [sg x]) r (hG1.trans hp2) f1 (ovl_mono hp2 hov) hG m2 r1 r2 (fun _ => ⟨x, x1, x2, f2⟩)
    | 1, m3, hps, fin =>
      have hps := Nat.le_of_ble_eq_true (show Nat.ble 1 t.1 = true from hps)
      exact fin _ List.mem_cons_self G2 r hG1 u3 hov hG m2 r1 r2 (fun q => absurd (show t.1 = 0 from by have e9 : r.1 = t := m2; rw [← e9]; exact q) (by omega))
    | u + 2, m3, hps, fin =>
      exact fin _ List.mem_cons_self G2 r hG1 u3 hov hG m2 r1 r2 (fun q => sT_any (kd := fun _ => 0) (G := []) (m3 q))
theorem yctr_ok {call : Call} {y : Nat} {ct : Ctr} (hct : CtrOK kd sh rt bd Inv Ev call y ct) {E : YE} {as : List SV} {H : OV} {os : List Out} (h : yctr kd sh bd Wp ct E as H = some os) {G : List Int} {vs : List AV} {M : Mem} {P : Res → Prop} (hE : yenv G E) (hv : svs kd G as vs) (hH : ovl kd G H M) (hM : GM kd sh rt bd Wp Inv M0 M) (ho : ∀ o ∈ os, OutP kd sh rt bd Wp Inv M0 Ev G P o) : OKo (call y Ev 466 vs M) P := by
  obtain ⟨Gm, m1, m2, m3⟩ := ymat_ok hM.1 (l := ct.2.1) (p := (E, H)) hE hH
  exact yctr0_ok hct h m2 (svs_mono m1 hv) m3 hM (fun o hm => outP_up m1 (ho o hm))
end CTR
end
section
/-! methods, by depth; contracts out of runs -/
/-- how many locals, the blocks, the loops' heads -/
abbrev MDT : Type := Nat × List DB × List (Nat × An)
noncomputable def yflat (as : List SV) : List SV := List.rec (motive := fun _ => List SV) [] (fun a _ ih => Bool.rec (a :: ih) (a :: sT 0 :: ih) (sC2 a)) as
noncomputable def yrepl (N : Nat) : List SV := Nat.rec [] (fun _ ih => sT 0 :: ih) N
noncomputable def yini (nL : Nat) (as : List SV) : List SV := yflat as ++ yrepl (nL - ylen (yflat as))
section METH
variable {kd : Nat → Nat} {sh : Nat → Sh} {rt : Nat → Nat → Nat} {bd : Nat → Int → Int × Int} {un : Nat → Bool} {Wp PR : Nat → Int → Bool} {Inv : Mem → Prop} {M0 : Mem} {Ev : Env9}
theorem yflat_ok {G : List Int} : ∀ {as : List SV} {vs : List AV}, svs kd G as vs → svs kd G (yflat as) (flatL vs) := by
  intro as
  induction as with
  | nil => intro vs h; obtain rfl := svs_nil h; trivial
  | cons a as ih =>
    intro vs h
    obtain ⟨v, w, rfl, g1, g2⟩ := svs_cons h
    have h1 := ih g2
    show svs kd G (Bool.rec (a :: yflat as) (a :: sT 0 :: yflat as) (sC2 a)) (Bool.rec (v :: flatL w) (v :: vW 3 :: flatL w) (isC2 v))
    rw [sC2_ok g1]
    cases sC2 a with
    | false => exact ⟨g1, h1⟩
    | true => exact ⟨g1, rfl, h1⟩
theorem svs_app {G : List Int} : ∀ {a b : List SV} {v w : List AV}, svs kd G a v → svs kd G b w → svs kd G (a ++ b) (v ++ w) := by
  intro a
  induction a with
  | nil => intro b v w h1 h2; obtain rfl := svs_nil h1; exact h2
  | cons x a ih =>
    intro b v w h1 h2
    obtain ⟨y, v', rfl, g1, g2⟩ := svs_cons h1
    exact ⟨g1, ih g2 h2⟩
theorem yrepl_ok {G : List Int} : ∀ N, svs kd G (yrepl N) (repA (vW 3) N) := by
  intro N
  induction N with
  | zero => trivial
  | succ N ih => exact ⟨rfl, ih⟩
theorem yini_ok {G : List Int} {nL : Nat} {as : List SV} {vs : List AV} (h : svs kd G as vs) : svs kd G (yini nL as) (iniL nL vs) := by
  have h1 := yflat_ok h
  have e : ylen (yflat as) = (flatL vs).length := by rw [ylen_eq, svs_len h1]
  show svs kd G (yflat as ++ yrepl (nL - ylen (yflat as))) (flatL vs ++ repA (vW 3) (nL - (flatL vs).length))
  rw [e]
  exact svs_app h1 (yrepl_ok _)
abbrev Bo9 : Type := Nat → Call → Env9 → Nat → List AV → Mem → OR
/-- the numbers are the method -/
def MDOK (bo : Bo9) (y : Nat) (md : MDT) : Prop := ∃ (d : Nat) (ct : TrT Blk d), (∀ b q, yat md.2.1 b = some q → tget d ct b = dnB 0 q) ∧ ∀ (call : Call) (E : Env9) (n : Nat) (as : List AV) (M : Mem), bo y call E n as M = gd (Nat.ble (flatL as).length md.1) (runF call d ct 1000000000000 0 E n 0 (iniL md.1 as) [] M)
noncomputable def xanL (l : List (Nat × An)) (b : Nat) : Option An := List.rec none (fun a _ ih => Bool.rec ih (some a.2) (Nat.beq a.1 b)) l
noncomputable def xcode (kd : Nat → Nat) (sh : Nat → Sh) (rt : Nat → Nat → Nat) (bd : Nat → Int → Int × Int) (un : Nat → Bool) (Wp PR : Nat → Int → Bool) (l : List DB) (b : Nat) : Option XBl := match yat l b with | some q => some (xiB kd sh rt bd un Wp PR q) | none => none
noncomputable def xmeth (kd : Nat → Nat) (sh : Nat → Sh) (rt : Nat → Nat → Nat) (bd : Nat → Int → Int × Int) (un : Nat → Bool) (Wp PR : Nat → Int → Bool) (md : MDT) (xc : XC) (E : YE) (as : List SV) (H : OV) : Option (List Out) :=
  Bool.rec none (match xrun kd sh bd (xcode kd sh rt bd un Wp PR md.2.1) (xanL md.2.2) xc 400 [] 0 (E, yini md.1 as, [], H, 0) with
    | some r => Bool.rec none (some r.2) (Nat.ble r.1 1000000000000)
    | none => none) (Nat.ble (ylen (yflat as)) md.1)
theorem xmeth_ok (hu : ∀ κ v, un κ = true → bd κ v = bd κ 0) (hI : Hang kd PR Inv) {bo : Bo9} {y : Nat} {md : MDT} (hmd : MDOK bo y md) {call : Call} {xc : XC} (hC : CS kd sh rt bd Wp Inv M0 Ev call xc) {E : YE} {as : List SV} {H : OV} {os : List Out} (h : xmeth kd sh rt bd un Wp PR md xc E as H = some os) {G : List Int} {vs : List AV} {M : Mem} {P : Res → Prop} (hE : yenv G E) (hv : svs kd G as vs) (hH : ovl kd G H M) (hM : GM kd sh rt bd Wp Inv M0 M) (ho : ∀ o ∈ os, OutP kd sh rt bd Wp Inv M0 Ev G P o) : OKo (bo y call Ev 466 vs M) P := by
  obtain ⟨d, ct, h1, h2⟩ := hmd
  unfold xmeth at h
  cases hb : Nat.ble (ylen (yflat as)) md.1 with
  | false => rw [hb] at h; cases h
  | true =>
    rw [hb] at h
    cases hr : xrun kd sh bd (xcode kd sh rt bd un Wp PR md.2.1) (xanL md.2.2) xc 400 [] 0 (E, yini md.1 as, [], H, 0) with
    | none => rw [hr] at h; cases h
    | some r =>
      rw [hr] at h
      have h : (Bool.rec none (some r.2) (Nat.ble r.1 1000000000000) : Option (List Out)) = some os := h
      cases hc : Nat.ble r.1 1000000000000 with
      | false => rw [hc] at h; cases h
      | true =>
        rw [hc] at h
        cases h
        have e : ylen (yflat as) = (flatL vs).length := by rw [ylen_eq, svs_len (yflat_ok hv)]
        rw [h2, ← e, hb]
        have hk := xrun_ok (Zo := 0) (P := P) (ans := xanL md.2.2) hC (code := xcode kd sh rt bd un Wp PR md.2.1) (ct := ct) (fun b xl hx => by
          unfold xcode at hx
          cases hq : yat md.2.1 b with
          | none => rw [hq] at hx; cases hx
          | some q =>
            rw [hq] at hx
            cases hx
            rw [h1 b q hq]
            exact xiB_ok (Z := 0) hu hI (Nat.le_refl _) q) 400 [] 0 1000000000000 r.1 G (Nat.le_of_ble_eq_true hc) (fun rc hm => by cases hm)
        exact ks_use hk (σ := (E, yini md.1 as, [], H, 0)) (L := iniL md.1 vs) (S := []) hr (Nat.le_refl _) ho (List.prefix_refl _) ⟨hE, yini_ok hv, trivial, hH⟩ hM
noncomputable def yctrs (kd : Nat → Nat) (sh : Nat → Sh) (bd : Nat → Int → Int × Int) (Wp : Nat → Int → Bool) (E : YE) (as : List SV) (H : OV) (l : List Ctr) : Option (List Out) := List.rec none (fun c _ ih => match yctr kd sh bd Wp c E as H with | some os => some os | none => ih) l
theorem yctrs_mem {E : YE} {as : List SV} {H : OV} {os : List Out} : ∀ {l : List Ctr}, yctrs kd sh bd Wp E as H l = some os → ∃ c ∈ l, yctr kd sh bd Wp c E as H = some os := by
  intro l
  induction l with
  | nil => intro h; cases h
  | cons c l ih =>
    intro h
    have h : (match yctr kd sh bd Wp c E as H with | some os => some os | none => yctrs kd sh bd Wp E as H l : Option (List Out)) = some os := h
    cases hc : yctr kd sh bd Wp c E as H with
    | some os' => rw [hc] at h; cases h; exact ⟨c, List.mem_cons_self, hc⟩
    | none => rw [hc] at h; obtain ⟨c', h1, h2⟩ := ih h; exact ⟨c', List.mem_cons_of_mem _ h1, h2⟩
noncomputable def xM (kd : Nat → Nat) (sh : Nat → Sh) (rt : Nat → Nat → Nat) (bd : Nat → Int → Int × Int) (un : Nat → Bool) (Wp PR : Nat → Int → Bool) (MT : Nat → Option MDT) (CT : Nat → List Ctr) (D : Nat) : XC := Nat.rec (motive := fun _ => XC) (fun y E as H => yctrs kd sh bd Wp E as H (CT y)) (fun _ ih y E as H => match yctrs kd sh bd Wp E as H (CT y) with
  | some os => some os
  | none => (match MT y with | some md => xmeth kd sh rt bd un Wp PR md ih E as H | none => none)) D
theorem xM_ok (hu : ∀ κ v, un κ = true → bd κ v = bd κ 0) (hI : Hang kd PR Inv) {bo : Bo9} {R : Nat → Call} (hR : ∀ k y E n as M, R (k + 1) y E n as M = bo y (R k) E n as M) {MT : Nat → Option MDT} (hMT : ∀ y md, MT y = some md → MDOK bo y md) {CT : Nat → List Ctr} {b : Nat} (hCT : ∀ y, ∀ ct ∈ CT y, ∀ k, b ≤ k → CtrOK kd sh rt bd Inv Ev (R k) y ct) : ∀ D b', b ≤ b' → CS kd sh rt bd Wp Inv M0 Ev (R (b' + D)) (xM kd sh rt bd un Wp PR MT CT D) := by
  intro D
  induction D with
  | zero =>
    intro b' hb y E as H os h G vs M P hE hv hH hM ho
    obtain ⟨c, h1, h2⟩ := yctrs_mem (show yctrs kd sh bd Wp E as H (CT y) = some os from h)
    exact yctr_ok (hCT y c h1 b' hb) h2 hE hv hH hM ho
  | succ D ih =>
    intro b' hb y E as H os h G vs M P hE hv hH hM ho
    have h : (match yctrs kd sh bd Wp E as H (CT y) with | some os => some os | none => (match MT y with | some md => xmeth kd sh rt bd un Wp PR md (xM kd sh rt bd un Wp PR MT CT D) E as H | none => none) : Option (List Out)) = some os := h
    cases hc : yctrs kd sh bd Wp E as H (CT y) with
    | some os' =>
      rw [hc] at h
      cases h
      obtain ⟨c, h1, h2⟩ := yctrs_mem hc
      exact yctr_ok (hCT y c h1 _ (by omega)) h2 hE hv hH hM ho
    | none =>
      rw [hc] at h
      cases hm : MT y with
      | none => rw [hm] at h; cases h
      | some md =>
        rw [hm] at h
        show OKo (R (b' + D + 1) y Ev 466 vs M) P
        rw [hR]
        exact xmeth_ok hu hI (hMT y md hm) (ih b' hb) h hE hv hH hM ho
/-- the arguments of a contract -/
noncomputable def yarg (E : YE) (p : APt) : YE × SV := match p.1 with
  | 0 => ((yfresh E p.2.1 p.2.2).1, sI (yfresh E p.2.1 p.2.2).2)
  | 1 => (E, sR (.inl p.2.1.toNat))
  | 2 => yref E p.2.1.toNat
  | 3 => (E, sT 3)
  | _ => (E, sW p.2.1.toNat)
theorem yarg_ok {G : List Int} {E : YE} (hE : yenv G E) {p : APt} {v : AV} (h : aOK kd p v) : ∃ G', G <+: G' ∧ yenv G' (yarg E p).1 ∧ sv kd G' (yarg E p).2 v := by
  obtain ⟨c, lo, hi⟩ := p
  match c, h with
  | 0, h =>
    obtain ⟨x, e1, e2, e3, e4⟩ := h
    obtain ⟨f1, f2⟩ := yfresh_ok hE e3 e4
    exact ⟨_, List.prefix_append _ _, f1, x, e1, e2, f2⟩
  | 1, h => exact ⟨G, List.prefix_refl _, hE, _, h.1, h.2, rfl⟩
  | 2, h =>
    obtain ⟨k, e1, e2, e3⟩ := h
    subst e1
    obtain ⟨f1, f2⟩ := yref_ok (kd := kd) hE e3 e2
    exact ⟨_, List.prefix_append _ _, f1, f2⟩
  | 3, h => exact ⟨G, List.prefix_refl _, hE, h⟩
  | c + 4, h => exact ⟨G, List.prefix_refl _, hE, h⟩
noncomputable def yargs (l : List APt) : YE → YE × List SV := List.rec (motive := fun _ => YE → YE × List SV) (fun E => (E, [])) (fun p _ ih E => ((ih (yarg E p).1).1, (yarg E p).2 :: (ih (yarg E p).1).2)) l
theorem yargs_ok : ∀ {l : List APt} {G : List Int} {E : YE} {vs : List AV}, yenv G E → asOK kd l vs → ∃ G', G <+: G' ∧ yenv G' (yargs l E).1 ∧ svs kd G' (yargs l E).2 vs := by
  intro l
  induction l with
  | nil =>
    intro G E vs hE h
    cases vs with
    | nil => exact ⟨G, List.prefix_refl _, hE, trivial⟩
    | cons _ _ => exact h.elim
  | cons p l ih =>
    intro G E vs hE h
    cases vs with
    | nil => exact h.elim
    | cons v vs =>
      obtain ⟨G1, g1, g2, g3⟩ := yarg_ok hE h.1
      obtain ⟨G2, k1, k2, k3⟩ := ih g2 h.2
      exact ⟨G2, g1.trans k1, k2, sv_mono k1 g3, k3⟩
/-- an end is among those promised -/
noncomputable def ypm (o : Out) (p : Pst) : Bool := Bool.rec false (Bool.rec false (Bool.rec false (Bool.rec false (Bool.rec (match p.2.1.1 with
  | 0 => (match o.2.2.1 with | .inl q => yin (yrg o.2.1 q) p.2.1.2 | _ => false)
  | 1 => true
  | t + 2 => (match t with
    | 3 => sP o.2.1 1 o.2.2.1
    | _ => isT o.2.2.1 t)) true (Nat.ble 1 o.1.1)) (yckS 0 o.2.1 o.2.2.2.1 p.2.2.2)) (yckF 0 o.2.1 o.2.2.2.1 p.2.2.1)) (Nat.beq o.1.2 p.1.2)) (Nat.beq o.1.1 p.1.1)
theorem ypm_ok {G : List Int} {o : Out} {p : Pst} {r : Res} (h : ypm o p = true) (h2 : yenv G o.2.1) (h3 : ovl kd G o.2.2.2.1 r.2.2.2.2.2.1) (h4 : r.1 = o.1) (h5 : r.1.1 = 0 → sv kd G o.2.2.1 r.2.2.1) : pOK kd p r := by
  obtain ⟨k1, h⟩ := band h
  obtain ⟨k2, h⟩ := band h
  obtain ⟨k3, h⟩ := band h
  obtain ⟨k4, k5⟩ := band h
  have hp : ([] : List Int) <+: G := List.nil_prefix
  refine ⟨?_, fun h0 => ?_, yckF_ok hp h2 h3 k3, yckS_ok hp h2 h3 k4⟩
  · rw [h4]
    obtain ⟨⟨o1, o2⟩, o3⟩ := o
    obtain ⟨⟨p1, p2⟩, p3⟩ := p
    have k1 : o1 = p1 := Nat.eq_of_beq_eq_true k1
    have k2 : o2 = p2 := Nat.eq_of_beq_eq_true k2
    rw [k1, k2]
  · have hv := h5 h0
    rw [h4] at h0
    have hb : Nat.ble 1 o.1.1 = false := by
      cases hq : Nat.ble 1 o.1.1 with
      | false => rfl
      | true => have := Nat.le_of_ble_eq_true hq; omega
    rw [hb] at k5
    obtain ⟨t, ⟨c, lo, hi⟩, fs, ss⟩ := p
    match c, k5 with
    | 0, k5 =>
      cases ho : o.2.2.1 with
      | inl q =>
        have k5 : (match o.2.2.1 with | .inl q => yin (yrg o.2.1 q) (lo, hi) | _ => false : Bool) = true := k5
        rw [ho] at k5 hv
        obtain ⟨x, e1, e2, e3⟩ := hv
        obtain ⟨b1, b2⟩ := yin_ok h2 e3 k5
        exact ⟨x, e1, e2, b1, b2⟩
      | inr q =>
        have k5 : (match o.2.2.1 with | .inl q => yin (yrg o.2.1 q) (lo, hi) | _ => false : Bool) = true := k5
        rw [ho] at k5
        cases k5
    | 1, _ => trivial
    | c + 2, k5 =>
      match c, k5 with
      | 3, k5 => exact sP1_J k5 hv
      | 0, k5 => have e := isT_eq k5; rw [e] at hv; exact hv
      | 1, k5 => have e := isT_eq k5; rw [e] at hv; exact hv
      | 2, k5 => have e := isT_eq k5; rw [e] at hv; exact hv
      | c + 4, k5 => have e := isT_eq k5; rw [e] at hv; exact hv
noncomputable def yanyp (o : Out) (l : List Pst) : Bool := List.rec false (fun p _ ih => Bool.rec ih true (ypm o p)) l
noncomputable def yallo (l : List Pst) (os : List Out) : Bool := List.rec true (fun o _ ih => Bool.rec false ih (yanyp o l)) os
theorem yanyp_mem {o : Out} : ∀ {l : List Pst}, yanyp o l = true → ∃ p ∈ l, ypm o p = true := by
  intro l
  induction l with
  | nil => intro h; cases h
  | cons p l ih =>
    intro h
    have h : (Bool.rec (yanyp o l) true (ypm o p) : Bool) = true := h
    cases hb : ypm o p with
    | true => exact ⟨p, List.mem_cons_self, hb⟩
    | false => rw [hb] at h; obtain ⟨q, h1, h2⟩ := ih h; exact ⟨q, List.mem_cons_of_mem _ h1, h2⟩
theorem yallo_mem {l : List Pst} : ∀ {os : List Out}, yallo l os = true → ∀ o ∈ os, yanyp o l = true := by
  intro os
  induction os with
  | nil => intro _ o h; cases h
  | cons a os ih =>
    intro h o hm
    obtain ⟨h1, h2⟩ := band (show (Bool.rec false (yallo l os) (yanyp a l) : Bool) = true from h)
    rcases List.mem_cons.mp hm with e | e
    · rw [e]; exact h1
    · exact ih h2 o e
/-- a contract holds: the run from its start ends as it says -/
noncomputable def xctr (kd : Nat → Nat) (sh : Nat → Sh) (rt : Nat → Nat → Nat) (bd : Nat → Int → Int × Int) (un : Nat → Bool) (PR : Nat → Int → Bool) (MT : Nat → Option MDT) (CT : Nat → List Ctr) (D : Nat) (md : MDT) (ct : Ctr) : Bool :=
  match yhS ct.2.2.1 (yhH ct.2.1 ((yargs ct.1 []).1, [])).2 (yhH ct.2.1 ((yargs ct.1 []).1, [])).1 with
  | some E => (match xmeth kd sh rt bd un (inW ct.2.2.2.1) PR md (xM kd sh rt bd un (inW ct.2.2.2.1) PR MT CT D) E (yargs ct.1 []).2 (yhH ct.2.1 ((yargs ct.1 []).1, [])).2 with
    | some os => yallo ct.2.2.2.2 os
    | none => false)
  | none => true
theorem xctr_ok (hu : ∀ κ v, un κ = true → bd κ v = bd κ 0) (hI : Hang kd PR Inv) {bo : Bo9} {R : Nat → Call} (hR : ∀ k y E n as M, R (k + 1) y E n as M = bo y (R k) E n as M) {MT : Nat → Option MDT} (hMT : ∀ y md, MT y = some md → MDOK bo y md) {CT : Nat → List Ctr} {b : Nat} (hCT : ∀ y, ∀ ct ∈ CT y, ∀ k, b ≤ k → CtrOK kd sh rt bd Inv Ev (R k) y ct) {y : Nat} {md : MDT} (hmd : MDOK bo y md) {ct : Ctr} {D : Nat} (h : xctr kd sh rt bd un PR MT CT D md ct = true) : ∀ k, b + D + 1 ≤ k → CtrOK kd sh rt bd Inv Ev (R k) y ct := by
  intro k hk vs M h1 h2 h3 hT hInv
  obtain ⟨b', rfl⟩ : ∃ b', k = b' + D + 1 := ⟨k - D - 1, by omega⟩
  have hE0 : yenv [] ([] : YE) := ⟨rfl, fun g e hg => by simp at hg⟩
  obtain ⟨G1, g1, g2, g3⟩ := yargs_ok hE0 h1
  obtain ⟨G2, k1, k2, k3, -⟩ := yhH_ok (p := ((yargs ct.1 []).1, [])) (M := M) g2 (fun q hq => by cases hq) (prFa_up h2)
  obtain ⟨E, G3, u1, u2, u3⟩ := yhS_ok k2 k3 (prSu_up h3)
  unfold xctr at h
  rw [u1] at h
  have h : (match xmeth kd sh rt bd un (inW ct.2.2.2.1) PR md (xM kd sh rt bd un (inW ct.2.2.2.1) PR MT CT D) E (yargs ct.1 []).2 (yhH ct.2.1 ((yargs ct.1 []).1, [])).2 with
    | some os => yallo ct.2.2.2.2 os
    | none => false) = true := h
  cases hx : xmeth kd sh rt bd un (inW ct.2.2.2.1) PR md (xM kd sh rt bd un (inW ct.2.2.2.1) PR MT CT D) E (yargs ct.1 []).2 (yhH ct.2.1 ((yargs ct.1 []).1, [])).2 with
  | none => rw [hx] at h; cases h
  | some os =>
    rw [hx] at h
    rw [hR]
    refine xmeth_ok (M0 := M) hu hI hmd (xM_ok hu hI hR hMT hCT D b' (by omega)) hx u3 (svs_mono (k1.trans u2) g3) (ovl_mono u2 k3) ⟨hT, hInv, fun k' _ i' _ => rfl⟩ (fun o hm G r q1 q2 q3 q4 q5 q6 q7 q8 => ?_)
    obtain ⟨p, p1, p2⟩ := yanyp_mem (yallo_mem h o hm)
    exact ⟨q6, q7, q4.1, q4.2.1, q4.2.2, p, p1, ypm_ok p2 q2 q3 q5 q8⟩
end METH
end
section
/-! the numbers of a method against its blocks -/
def faB {d : Nat} (ct : TrT Blk d) : Nat → List DB → Prop
  | _, [] => True
  | b, q :: l => tget d ct b = dnB 0 q ∧ faB ct (b + 1) l
theorem fa_of {d : Nat} {ct : TrT Blk d} : ∀ {l : List DB} {s : Nat}, faB ct s l → ∀ b q, yat l b = some q → tget d ct (s + b) = dnB 0 q := by
  intro l
  induction l with
  | nil => intro s _ b q h; cases h
  | cons a l ih =>
    intro s hf b q h
    obtain ⟨h1, h2⟩ := hf
    cases b with
    | zero =>
      have h : some a = some q := h
      cases h
      exact h1
    | succ b =>
      have := ih h2 b q h
      rw [show s + (b + 1) = s + 1 + b by omega]
      exact this
theorem md_of {bo : Bo9} {y n d : Nat} {l : List DB} {ct : TrT Blk d} {bo' : Call → Env9 → Nat → List AV → Mem → OR} (h : bo y = bo') (hb : ∀ (call : Call) (E : Env9) (m : Nat) (as : List AV) (M : Mem), bo' call E m as M = gd (Nat.ble (flatL as).length n) (runF call d ct 1000000000000 0 E m 0 (iniL n as) [] M)) (hf : faB ct 0 l) (hs : List (Nat × An)) : MDOK bo y (n, l, hs) :=
  ⟨d, ct, fun b q hq => by have := fa_of hf b q hq; rwa [Nat.zero_add] at this, fun call E m as M => by rw [h]; exact hb call E m as M⟩
end
section
/-! the cells: kinds, shapes, bounds -/
noncomputable def kdT : TrT Nat 9 := (((((((((0, 1), (14, 2)), ((15, 3), (16, 4))), (((17, 18), (5, 5)), ((5, 5), (5, 5)))), ((((5, 5), (5, 5)), ((5, 5), (6, 19))), (((20, 6), (19, 20)), ((6, 19), (20, 6))))), (((((19, 20), (6, 19)), ((20, 6), (19, 20))), (((6, 19), (20, 6)), ((19, 20), (4, 17)))), ((((18, 5), (5, 5)), ((5, 5), (5, 5))), (((5, 5), (5, 5)), ((5, 6), (19, 20)))))), ((((((6, 19), (20, 6)), ((19, 20), (6, 19))), (((20, 6), (19, 20)), ((6, 19), (20, 6)))), ((((19, 20), (6, 19)), ((20, 7), (21, 4))), (((17, 18), (5, 5)), ((5, 5), (5, 5))))), (((((5, 5), (5, 5)), ((5, 5), (6, 19))), (((20, 6), (19, 20)), ((6, 19), (20, 6)))), ((((19, 20), (6, 19)), ((20, 6), (19, 20))), (((6, 19), (20, 6)), ((19, 20), (8, 22))))))), (((((((4, 17), (18, 5)), ((5, 5), (5, 5))), (((5, 5), (5, 5)), ((5, 5), (5, 6)))), ((((19, 20), (6, 19)), ((20, 6), (19, 20))), (((6, 19), (20, 6)), ((19, 20), (6, 19))))), (((((20, 6), (19, 20)), ((6, 19), (20, 4))), (((17, 18), (5, 5)), ((5, 5), (5, 5)))), ((((5, 5), (5, 5)), ((5, 5), (6, 19))), (((20, 6), (19, 20)), ((6, 19), (20, 6)))))), ((((((19, 20), (6, 19)), ((20, 6), (19, 20))), (((6, 19), (20, 6)), ((19, 20), (4, 17)))), ((((18, 5), (5, 5)), ((5, 5), (5, 5))), (((5, 5), (5, 5)), ((5, 6), (19, 20))))), (((((6, 19), (20, 6)), ((19, 20), (6, 19))), (((20, 6), (19, 20)), ((6, 19), (20, 6)))), ((((19, 20), (6, 19)), ((20, 4), (17, 18))), (((5, 5), (5, 5)), ((5, 5), (5, 5)))))))), ((((((((5, 5), (5, 5)), ((6, 19), (20, 6))), (((19, 20), (6, 19)), ((20, 6), (19, 20)))), ((((6, 19), (20, 6)), ((19, 20), (6, 19))), (((20, 6), (19, 20)), ((4, 17), (18, 5))))), (((((5, 5), (5, 5)), ((5, 5), (5, 5))), (((5, 5), (5, 6)), ((19, 20), (6, 19)))), ((((20, 6), (19, 20)), ((6, 19), (20, 6))), (((19, 20), (6, 19)), ((20, 6), (19, 20)))))), ((((((6, 19), (20, 4)), ((17, 18), (5, 5))), (((5, 5), (5, 5)), ((5, 5), (5, 5)))), ((((5, 5), (6, 19)), ((20, 6), (19, 20))), (((6, 19), (20, 6)), ((19, 20), (6, 19))))), (((((20, 6), (19, 20)), ((6, 19), (20, 6))), (((19, 20), (4, 17)), ((18, 5), (5, 5)))), ((((5, 5), (5, 5)), ((5, 5), (5, 5))), (((5, 6), (19, 20)), ((6, 19), (20, 6))))))), (((((((19, 20), (6, 19)), ((20, 6), (19, 20))), (((6, 19), (20, 6)), ((19, 20), (6, 19)))), ((((20, 4), (17, 18)), ((5, 5), (5, 5))), (((5, 5), (5, 5)), ((5, 5), (5, 5))))), (((((6, 19), (20, 6)), ((19, 20), (6, 19))), (((20, 6), (19, 20)), ((6, 19), (20, 6)))), ((((19, 20), (6, 19)), ((20, 6), (19, 20))), (((9, 23), (24, 25)), ((26, 27), (10, 11)))))), ((((((12, 28), (29, 30)), ((13, 31), (32, 33))), (((34, 35), (36, 37)), ((38, 39), (40, 41)))), ((((42, 43), (63, 63)), ((63, 63), (63, 63))), (((63, 63), (63, 63)), ((63, 63), (63, 63))))), (((((63, 63), (63, 63)), ((63, 63), (63, 63))), (((63, 63), (63, 63)), ((63, 63), (63, 63)))), ((((63, 63), (63, 63)), ((63, 63), (63, 63))), (((63, 63), (63, 63)), ((63, 63), (63, 63)))))))))
noncomputable def kd0 (k : Nat) : Nat := tget 9 kdT k
noncomputable def shT : TrT Sh 6 := ((((((.inl (10, [3, 4, 5, 6, 6, 9, 6, 0, 10, 11, 12, 13, 14, 0, 0]), .inl (0, [16, 0])), (.inl (0, [17, 0]), .inl (6, [0, 18, 0]))), ((.inl (9, [19, 20, 0, 0, 0, 0, 0, 0, 0, 0, 0]), .inl (3, [1, 0, 0, 0, 0, 0, 0, 0, 0])), (.inl (8, [1, 0, 0, 0, 0, 21, 0, 0, 0, 22, 0, 0]), .inl (6, [0, 23, 0])))), (((.inl (4, [24, 0, 0]), .inl (5, [25, 26, 27, 28, 29, 0])), (.inl (7, [3, 0, 0, 0, 0, 0, 0, 0]), .inl (2, [12, 6, 9]))), ((.inl (1, [12, 30, 31, 32, 0]), .inl (11, [33, 34, 35, 36, 37, 0, 0, 0, 38, 39, 40, 41, 0, 0, 0, 42, 0, 0, 0, 0, 0, 0, 0, 0, 43, 0, 44, 0])), (.inr (.inl (1, 900)), .inr (.inl (1, 160)))))), ((((.inr (.inl (0, 12)), .inr (.inr (.inl (3, 12, 5)))), (.inr (.inr (.inl (8, 8, 6))), .inr (.inl (0, 3)))), ((.inr (.inl (0, 12)), .inr (.inl (0, 12))), (.inr (.inr (.inl (9, 8, 4))), .inr (.inl (0, 12))))), (((.inr (.inl (0, 12)), .inr (.inl (0, 8))), (.inr (.inl (0, 96)), .inr (.inl (0, 108)))), ((.inr (.inl (0, 30)), .inr (.inl (0, 30))), (.inr (.inl (0, 30)), .inr (.inl (0, 627))))))), (((((.inr (.inl (0, 627)), .inr (.inl (0, 627))), (.inr (.inl (0, 627)), .inr (.inl (0, 5016)))), ((.inr (.inl (0, 16)), .inr (.inl (0, 24))), (.inr (.inl (0, 8)), .inr (.inl (2, 96))))), (((.inr (.inl (0, 900)), .inr (.inl (0, 90))), (.inr (.inl (0, 256)), .inr (.inr (.inr 1)))), ((.inr (.inr (.inr 0)), .inr (.inr (.inr 0))), (.inr (.inr (.inr 0)), .inr (.inr (.inr 0)))))), ((((.inr (.inr (.inr 0)), .inr (.inr (.inr 0))), (.inr (.inr (.inr 0)), .inr (.inr (.inr 0)))), ((.inr (.inr (.inr 0)), .inr (.inr (.inr 0))), (.inr (.inr (.inr 0)), .inr (.inr (.inr 0))))), (((.inr (.inr (.inr 0)), .inr (.inr (.inr 0))), (.inr (.inr (.inr 0)), .inr (.inr (.inr 0)))), ((.inr (.inr (.inr 0)), .inr (.inr (.inr 0))), (.inr (.inr (.inr 0)), .inr (.inr (.inr 0))))))))
noncomputable def sh0 (k : Nat) : Sh := tget 6 shT k
noncomputable def rtT : TrT (List Nat) 9 := ((((((((([1, 3, 5, 7, 46, 85, 87, 0, 126, 440, 446, 447, 448, 0, 0], [2, 0]), ([], [4, 0])), (([], [0, 6, 0]), ([], [8, 9, 0, 0, 0, 0, 0, 0, 0, 0, 0]))), ((([10, 11, 12, 13, 14, 15, 16, 17, 18, 19, 20, 21], [22, 25, 28, 31, 34, 37, 40, 43]), ([0, 0, 0, 0, 0, 0, 0, 0, 0], [0, 0, 0, 0, 0, 0, 0, 0, 0])), (([0, 0, 0, 0, 0, 0, 0, 0, 0], [0, 0, 0, 0, 0, 0, 0, 0, 0]), ([0, 0, 0, 0, 0, 0, 0, 0, 0], [0, 0, 0, 0, 0, 0, 0, 0, 0])))), (((([0, 0, 0, 0, 0, 0, 0, 0, 0], [0, 0, 0, 0, 0, 0, 0, 0, 0]), ([0, 0, 0, 0, 0, 0, 0, 0, 0], [0, 0, 0, 0, 0, 0, 0, 0, 0])), (([0, 0, 0, 0, 0, 0, 0, 0, 0], [0, 0, 0, 0, 0, 0, 0, 0, 0]), ([0, 0, 0, 0, 0, 23, 0, 0, 0, 24, 0, 0], []))), ((([], [0, 0, 0, 0, 0, 26, 0, 0, 0, 27, 0, 0]), ([], [])), (([0, 0, 0, 0, 0, 29, 0, 0, 0, 30, 0, 0], []), ([], [0, 0, 0, 0, 0, 32, 0, 0, 0, 33, 0, 0]))))), ((((([], []), ([0, 0, 0, 0, 0, 35, 0, 0, 0, 36, 0, 0], [])), (([], [0, 0, 0, 0, 0, 38, 0, 0, 0, 39, 0, 0]), ([], []))), ((([0, 0, 0, 0, 0, 41, 0, 0, 0, 42, 0, 0], []), ([], [0, 0, 0, 0, 0, 44, 0, 0, 0, 45, 0, 0])), (([], []), ([47, 48, 0, 0, 0, 0, 0, 0, 0, 0, 0], [49, 50, 51, 52, 53, 54, 55, 56, 57, 58, 59, 60])))), (((([61, 64, 67, 70, 73, 76, 79, 82], [0, 0, 0, 0, 0, 0, 0, 0, 0]), ([0, 0, 0, 0, 0, 0, 0, 0, 0], [0, 0, 0, 0, 0, 0, 0, 0, 0])), (([0, 0, 0, 0, 0, 0, 0, 0, 0], [0, 0, 0, 0, 0, 0, 0, 0, 0]), ([0, 0, 0, 0, 0, 0, 0, 0, 0], [0, 0, 0, 0, 0, 0, 0, 0, 0]))), ((([0, 0, 0, 0, 0, 0, 0, 0, 0], [0, 0, 0, 0, 0, 0, 0, 0, 0]), ([0, 0, 0, 0, 0, 0, 0, 0, 0], [0, 0, 0, 0, 0, 0, 0, 0, 0])), (([0, 0, 0, 0, 0, 0, 0, 0, 0], [0, 0, 0, 0, 0, 62, 0, 0, 0, 63, 0, 0]), ([], [])))))), (((((([0, 0, 0, 0, 0, 65, 0, 0, 0, 66, 0, 0], []), ([], [0, 0, 0, 0, 0, 68, 0, 0, 0, 69, 0, 0])), (([], []), ([0, 0, 0, 0, 0, 71, 0, 0, 0, 72, 0, 0], []))), ((([], [0, 0, 0, 0, 0, 74, 0, 0, 0, 75, 0, 0]), ([], [])), (([0, 0, 0, 0, 0, 77, 0, 0, 0, 78, 0, 0], []), ([], [0, 0, 0, 0, 0, 80, 0, 0, 0, 81, 0, 0])))), (((([], []), ([0, 0, 0, 0, 0, 83, 0, 0, 0, 84, 0, 0], [])), (([], [0, 86, 0]), ([], [88, 89, 0, 0, 0, 0, 0, 0, 0, 0, 0]))), ((([90, 91, 92, 93, 94, 95, 96, 97, 98, 99, 100, 101], [102, 105, 108, 111, 114, 117, 120, 123]), ([0, 0, 0, 0, 0, 0, 0, 0, 0], [0, 0, 0, 0, 0, 0, 0, 0, 0])), (([0, 0, 0, 0, 0, 0, 0, 0, 0], [0, 0, 0, 0, 0, 0, 0, 0, 0]), ([0, 0, 0, 0, 0, 0, 0, 0, 0], [0, 0, 0, 0, 0, 0, 0, 0, 0]))))), ((((([0, 0, 0, 0, 0, 0, 0, 0, 0], [0, 0, 0, 0, 0, 0, 0, 0, 0]), ([0, 0, 0, 0, 0, 0, 0, 0, 0], [0, 0, 0, 0, 0, 0, 0, 0, 0])), (([0, 0, 0, 0, 0, 0, 0, 0, 0], [0, 0, 0, 0, 0, 0, 0, 0, 0]), ([0, 0, 0, 0, 0, 103, 0, 0, 0, 104, 0, 0], []))), ((([], [0, 0, 0, 0, 0, 106, 0, 0, 0, 107, 0, 0]), ([], [])), (([0, 0, 0, 0, 0, 109, 0, 0, 0, 110, 0, 0], []), ([], [0, 0, 0, 0, 0, 112, 0, 0, 0, 113, 0, 0])))), (((([], []), ([0, 0, 0, 0, 0, 115, 0, 0, 0, 116, 0, 0], [])), (([], [0, 0, 0, 0, 0, 118, 0, 0, 0, 119, 0, 0]), ([], []))), ((([0, 0, 0, 0, 0, 121, 0, 0, 0, 122, 0, 0], []), ([], [0, 0, 0, 0, 0, 124, 0, 0, 0, 125, 0, 0])), (([], []), ([127, 0, 0], [128, 167, 206, 245, 284, 323, 362, 401]))))))), ((((((([129, 130, 0, 0, 0, 0, 0, 0, 0, 0, 0], [131, 132, 133, 134, 135, 136, 137, 138, 139, 140, 141, 142]), ([143, 146, 149, 152, 155, 158, 161, 164], [0, 0, 0, 0, 0, 0, 0, 0, 0])), (([0, 0, 0, 0, 0, 0, 0, 0, 0], [0, 0, 0, 0, 0, 0, 0, 0, 0]), ([0, 0, 0, 0, 0, 0, 0, 0, 0], [0, 0, 0, 0, 0, 0, 0, 0, 0]))), ((([0, 0, 0, 0, 0, 0, 0, 0, 0], [0, 0, 0, 0, 0, 0, 0, 0, 0]), ([0, 0, 0, 0, 0, 0, 0, 0, 0], [0, 0, 0, 0, 0, 0, 0, 0, 0])), (([0, 0, 0, 0, 0, 0, 0, 0, 0], [0, 0, 0, 0, 0, 0, 0, 0, 0]), ([0, 0, 0, 0, 0, 0, 0, 0, 0], [0, 0, 0, 0, 0, 144, 0, 0, 0, 145, 0, 0])))), (((([], []), ([0, 0, 0, 0, 0, 147, 0, 0, 0, 148, 0, 0], [])), (([], [0, 0, 0, 0, 0, 150, 0, 0, 0, 151, 0, 0]), ([], []))), ((([0, 0, 0, 0, 0, 153, 0, 0, 0, 154, 0, 0], []), ([], [0, 0, 0, 0, 0, 156, 0, 0, 0, 157, 0, 0])), (([], []), ([0, 0, 0, 0, 0, 159, 0, 0, 0, 160, 0, 0], []))))), ((((([], [0, 0, 0, 0, 0, 162, 0, 0, 0, 163, 0, 0]), ([], [])), (([0, 0, 0, 0, 0, 165, 0, 0, 0, 166, 0, 0], []), ([], [168, 169, 0, 0, 0, 0, 0, 0, 0, 0, 0]))), ((([170, 171, 172, 173, 174, 175, 176, 177, 178, 179, 180, 181], [182, 185, 188, 191, 194, 197, 200, 203]), ([0, 0, 0, 0, 0, 0, 0, 0, 0], [0, 0, 0, 0, 0, 0, 0, 0, 0])), (([0, 0, 0, 0, 0, 0, 0, 0, 0], [0, 0, 0, 0, 0, 0, 0, 0, 0]), ([0, 0, 0, 0, 0, 0, 0, 0, 0], [0, 0, 0, 0, 0, 0, 0, 0, 0])))), (((([0, 0, 0, 0, 0, 0, 0, 0, 0], [0, 0, 0, 0, 0, 0, 0, 0, 0]), ([0, 0, 0, 0, 0, 0, 0, 0, 0], [0, 0, 0, 0, 0, 0, 0, 0, 0])), (([0, 0, 0, 0, 0, 0, 0, 0, 0], [0, 0, 0, 0, 0, 0, 0, 0, 0]), ([0, 0, 0, 0, 0, 183, 0, 0, 0, 184, 0, 0], []))), ((([], [0, 0, 0, 0, 0, 186, 0, 0, 0, 187, 0, 0]), ([], [])), (([0, 0, 0, 0, 0, 189, 0, 0, 0, 190, 0, 0], []), ([], [0, 0, 0, 0, 0, 192, 0, 0, 0, 193, 0, 0])))))), (((((([], []), ([0, 0, 0, 0, 0, 195, 0, 0, 0, 196, 0, 0], [])), (([], [0, 0, 0, 0, 0, 198, 0, 0, 0, 199, 0, 0]), ([], []))), ((([0, 0, 0, 0, 0, 201, 0, 0, 0, 202, 0, 0], []), ([], [0, 0, 0, 0, 0, 204, 0, 0, 0, 205, 0, 0])), (([], []), ([207, 208, 0, 0, 0, 0, 0, 0, 0, 0, 0], [209, 210, 211, 212, 213, 214, 215, 216, 217, 218, 219, 220])))), (((([221, 224, 227, 230, 233, 236, 239, 242], [0, 0, 0, 0, 0, 0, 0, 0, 0]), ([0, 0, 0, 0, 0, 0, 0, 0, 0], [0, 0, 0, 0, 0, 0, 0, 0, 0])), (([0, 0, 0, 0, 0, 0, 0, 0, 0], [0, 0, 0, 0, 0, 0, 0, 0, 0]), ([0, 0, 0, 0, 0, 0, 0, 0, 0], [0, 0, 0, 0, 0, 0, 0, 0, 0]))), ((([0, 0, 0, 0, 0, 0, 0, 0, 0], [0, 0, 0, 0, 0, 0, 0, 0, 0]), ([0, 0, 0, 0, 0, 0, 0, 0, 0], [0, 0, 0, 0, 0, 0, 0, 0, 0])), (([0, 0, 0, 0, 0, 0, 0, 0, 0], [0, 0, 0, 0, 0, 222, 0, 0, 0, 223, 0, 0]), ([], []))))), ((((([0, 0, 0, 0, 0, 225, 0, 0, 0, 226, 0, 0], []), ([], [0, 0, 0, 0, 0, 228, 0, 0, 0, 229, 0, 0])), (([], []), ([0, 0, 0, 0, 0, 231, 0, 0, 0, 232, 0, 0], []))), ((([], [0, 0, 0, 0, 0, 234, 0, 0, 0, 235, 0, 0]), ([], [])), (([0, 0, 0, 0, 0, 237, 0, 0, 0, 238, 0, 0], []), ([], [0, 0, 0, 0, 0, 240, 0, 0, 0, 241, 0, 0])))), (((([], []), ([0, 0, 0, 0, 0, 243, 0, 0, 0, 244, 0, 0], [])), (([], [246, 247, 0, 0, 0, 0, 0, 0, 0, 0, 0]), ([248, 249, 250, 251, 252, 253, 254, 255, 256, 257, 258, 259], [260, 263, 266, 269, 272, 275, 278, 281]))), ((([0, 0, 0, 0, 0, 0, 0, 0, 0], [0, 0, 0, 0, 0, 0, 0, 0, 0]), ([0, 0, 0, 0, 0, 0, 0, 0, 0], [0, 0, 0, 0, 0, 0, 0, 0, 0])), (([0, 0, 0, 0, 0, 0, 0, 0, 0], [0, 0, 0, 0, 0, 0, 0, 0, 0]), ([0, 0, 0, 0, 0, 0, 0, 0, 0], [0, 0, 0, 0, 0, 0, 0, 0, 0])))))))), (((((((([0, 0, 0, 0, 0, 0, 0, 0, 0], [0, 0, 0, 0, 0, 0, 0, 0, 0]), ([0, 0, 0, 0, 0, 0, 0, 0, 0], [0, 0, 0, 0, 0, 0, 0, 0, 0])), (([0, 0, 0, 0, 0, 261, 0, 0, 0, 262, 0, 0], []), ([], [0, 0, 0, 0, 0, 264, 0, 0, 0, 265, 0, 0]))), ((([], []), ([0, 0, 0, 0, 0, 267, 0, 0, 0, 268, 0, 0], [])), (([], [0, 0, 0, 0, 0, 270, 0, 0, 0, 271, 0, 0]), ([], [])))), (((([0, 0, 0, 0, 0, 273, 0, 0, 0, 274, 0, 0], []), ([], [0, 0, 0, 0, 0, 276, 0, 0, 0, 277, 0, 0])), (([], []), ([0, 0, 0, 0, 0, 279, 0, 0, 0, 280, 0, 0], []))), ((([], [0, 0, 0, 0, 0, 282, 0, 0, 0, 283, 0, 0]), ([], [])), (([285, 286, 0, 0, 0, 0, 0, 0, 0, 0, 0], [287, 288, 289, 290, 291, 292, 293, 294, 295, 296, 297, 298]), ([299, 302, 305, 308, 311, 314, 317, 320], [0, 0, 0, 0, 0, 0, 0, 0, 0]))))), ((((([0, 0, 0, 0, 0, 0, 0, 0, 0], [0, 0, 0, 0, 0, 0, 0, 0, 0]), ([0, 0, 0, 0, 0, 0, 0, 0, 0], [0, 0, 0, 0, 0, 0, 0, 0, 0])), (([0, 0, 0, 0, 0, 0, 0, 0, 0], [0, 0, 0, 0, 0, 0, 0, 0, 0]), ([0, 0, 0, 0, 0, 0, 0, 0, 0], [0, 0, 0, 0, 0, 0, 0, 0, 0]))), ((([0, 0, 0, 0, 0, 0, 0, 0, 0], [0, 0, 0, 0, 0, 0, 0, 0, 0]), ([0, 0, 0, 0, 0, 0, 0, 0, 0], [0, 0, 0, 0, 0, 300, 0, 0, 0, 301, 0, 0])), (([], []), ([0, 0, 0, 0, 0, 303, 0, 0, 0, 304, 0, 0], [])))), (((([], [0, 0, 0, 0, 0, 306, 0, 0, 0, 307, 0, 0]), ([], [])), (([0, 0, 0, 0, 0, 309, 0, 0, 0, 310, 0, 0], []), ([], [0, 0, 0, 0, 0, 312, 0, 0, 0, 313, 0, 0]))), ((([], []), ([0, 0, 0, 0, 0, 315, 0, 0, 0, 316, 0, 0], [])), (([], [0, 0, 0, 0, 0, 318, 0, 0, 0, 319, 0, 0]), ([], [])))))), (((((([0, 0, 0, 0, 0, 321, 0, 0, 0, 322, 0, 0], []), ([], [324, 325, 0, 0, 0, 0, 0, 0, 0, 0, 0])), (([326, 327, 328, 329, 330, 331, 332, 333, 334, 335, 336, 337], [338, 341, 344, 347, 350, 353, 356, 359]), ([0, 0, 0, 0, 0, 0, 0, 0, 0], [0, 0, 0, 0, 0, 0, 0, 0, 0]))), ((([0, 0, 0, 0, 0, 0, 0, 0, 0], [0, 0, 0, 0, 0, 0, 0, 0, 0]), ([0, 0, 0, 0, 0, 0, 0, 0, 0], [0, 0, 0, 0, 0, 0, 0, 0, 0])), (([0, 0, 0, 0, 0, 0, 0, 0, 0], [0, 0, 0, 0, 0, 0, 0, 0, 0]), ([0, 0, 0, 0, 0, 0, 0, 0, 0], [0, 0, 0, 0, 0, 0, 0, 0, 0])))), (((([0, 0, 0, 0, 0, 0, 0, 0, 0], [0, 0, 0, 0, 0, 0, 0, 0, 0]), ([0, 0, 0, 0, 0, 339, 0, 0, 0, 340, 0, 0], [])), (([], [0, 0, 0, 0, 0, 342, 0, 0, 0, 343, 0, 0]), ([], []))), ((([0, 0, 0, 0, 0, 345, 0, 0, 0, 346, 0, 0], []), ([], [0, 0, 0, 0, 0, 348, 0, 0, 0, 349, 0, 0])), (([], []), ([0, 0, 0, 0, 0, 351, 0, 0, 0, 352, 0, 0], []))))), ((((([], [0, 0, 0, 0, 0, 354, 0, 0, 0, 355, 0, 0]), ([], [])), (([0, 0, 0, 0, 0, 357, 0, 0, 0, 358, 0, 0], []), ([], [0, 0, 0, 0, 0, 360, 0, 0, 0, 361, 0, 0]))), ((([], []), ([363, 364, 0, 0, 0, 0, 0, 0, 0, 0, 0], [365, 366, 367, 368, 369, 370, 371, 372, 373, 374, 375, 376])), (([377, 380, 383, 386, 389, 392, 395, 398], [0, 0, 0, 0, 0, 0, 0, 0, 0]), ([0, 0, 0, 0, 0, 0, 0, 0, 0], [0, 0, 0, 0, 0, 0, 0, 0, 0])))), (((([0, 0, 0, 0, 0, 0, 0, 0, 0], [0, 0, 0, 0, 0, 0, 0, 0, 0]), ([0, 0, 0, 0, 0, 0, 0, 0, 0], [0, 0, 0, 0, 0, 0, 0, 0, 0])), (([0, 0, 0, 0, 0, 0, 0, 0, 0], [0, 0, 0, 0, 0, 0, 0, 0, 0]), ([0, 0, 0, 0, 0, 0, 0, 0, 0], [0, 0, 0, 0, 0, 0, 0, 0, 0]))), ((([0, 0, 0, 0, 0, 0, 0, 0, 0], [0, 0, 0, 0, 0, 378, 0, 0, 0, 379, 0, 0]), ([], [])), (([0, 0, 0, 0, 0, 381, 0, 0, 0, 382, 0, 0], []), ([], [0, 0, 0, 0, 0, 384, 0, 0, 0, 385, 0, 0]))))))), ((((((([], []), ([0, 0, 0, 0, 0, 387, 0, 0, 0, 388, 0, 0], [])), (([], [0, 0, 0, 0, 0, 390, 0, 0, 0, 391, 0, 0]), ([], []))), ((([0, 0, 0, 0, 0, 393, 0, 0, 0, 394, 0, 0], []), ([], [0, 0, 0, 0, 0, 396, 0, 0, 0, 397, 0, 0])), (([], []), ([0, 0, 0, 0, 0, 399, 0, 0, 0, 400, 0, 0], [])))), (((([], [402, 403, 0, 0, 0, 0, 0, 0, 0, 0, 0]), ([404, 405, 406, 407, 408, 409, 410, 411, 412, 413, 414, 415], [416, 419, 422, 425, 428, 431, 434, 437])), (([0, 0, 0, 0, 0, 0, 0, 0, 0], [0, 0, 0, 0, 0, 0, 0, 0, 0]), ([0, 0, 0, 0, 0, 0, 0, 0, 0], [0, 0, 0, 0, 0, 0, 0, 0, 0]))), ((([0, 0, 0, 0, 0, 0, 0, 0, 0], [0, 0, 0, 0, 0, 0, 0, 0, 0]), ([0, 0, 0, 0, 0, 0, 0, 0, 0], [0, 0, 0, 0, 0, 0, 0, 0, 0])), (([0, 0, 0, 0, 0, 0, 0, 0, 0], [0, 0, 0, 0, 0, 0, 0, 0, 0]), ([0, 0, 0, 0, 0, 0, 0, 0, 0], [0, 0, 0, 0, 0, 0, 0, 0, 0]))))), ((((([0, 0, 0, 0, 0, 417, 0, 0, 0, 418, 0, 0], []), ([], [0, 0, 0, 0, 0, 420, 0, 0, 0, 421, 0, 0])), (([], []), ([0, 0, 0, 0, 0, 423, 0, 0, 0, 424, 0, 0], []))), ((([], [0, 0, 0, 0, 0, 426, 0, 0, 0, 427, 0, 0]), ([], [])), (([0, 0, 0, 0, 0, 429, 0, 0, 0, 430, 0, 0], []), ([], [0, 0, 0, 0, 0, 432, 0, 0, 0, 433, 0, 0])))), (((([], []), ([0, 0, 0, 0, 0, 435, 0, 0, 0, 436, 0, 0], [])), (([], [0, 0, 0, 0, 0, 438, 0, 0, 0, 439, 0, 0]), ([], []))), ((([441, 442, 443, 444, 445, 0], []), ([], [])), (([], []), ([1, 0, 0, 0, 0, 0, 0, 0], [446, 46, 85])))))), (((((([446, 449, 450, 451, 0], []), ([], [])), (([453, 454, 455, 456, 457, 0, 0, 0, 458, 459, 460, 461, 0, 0, 0, 462, 0, 0, 0, 0, 0, 0, 0, 0, 463, 0, 464, 0], []), ([], []))), ((([], []), ([], [])), (([], []), ([], [])))), (((([], []), ([], [])), (([], []), ([], []))), ((([], []), ([], [])), (([], []), ([], []))))), ((((([], []), ([], [])), (([], []), ([], []))), ((([], []), ([], [])), (([], []), ([], [])))), (((([], []), ([], [])), (([], []), ([], []))), ((([], []), ([], [])), (([], []), ([], [])))))))))
noncomputable def rt0 (k i : Nat) : Nat := nthN (tget 9 rtT k) 0 i
noncomputable def rowT : TrT (Int × Int) 10 := (((((((((((0, 12), (0, 8)), (((-2147483648), 2147483647), (0, 30))), (((0, 12), ((-2147483648), 2147483647)), (((-2147483648), 2147483647), ((-2147483648), 2147483647)))), (((((-2147483648), 2147483647), ((-2147483648), 2147483647)), (((-2147483648), 2147483647), ((-2147483648), 2147483647))), ((((-2147483648), 2147483647), ((-2147483648), 2147483647)), (((-2147483648), 2147483647), ((-2147483648), 2147483647))))), ((((((-2147483648), 2147483647), ((-2147483648), 2147483647)), (((-2147483648), 2147483647), ((-2147483648), 2147483647))), ((((-2147483648), 2147483647), ((-2147483648), 2147483647)), (((-2147483648), 2147483647), (0, 6)))), (((((-1), 255), ((-1), 255)), (((-1), 255), ((-1), 255))), ((((-1), 255), ((-1), 255)), ((0, 99), ((-2147483648), 2147483647)))))), ((((((0, 99), (0, 99)), (((-2147483648), 2147483647), ((-2147483648), 2147483647))), (((0, 8), ((-2147483648), 2147483647)), ((0, 6), ((-1), 255)))), (((((-1), 255), ((-1), 255)), (((-1), 255), ((-1), 255))), ((((-1), 255), (0, 99)), (((-2147483648), 2147483647), (0, 99))))), (((((0, 99), ((-2147483648), 2147483647)), (((-2147483648), 2147483647), (0, 8))), ((((-2147483648), 2147483647), (0, 6)), (((-1), 255), ((-1), 255)))), (((((-1), 255), ((-1), 255)), (((-1), 255), ((-1), 255))), (((0, 99), ((-2147483648), 2147483647)), ((0, 99), (0, 99))))))), ((((((((-2147483648), 2147483647), ((-2147483648), 2147483647)), ((0, 8), ((-2147483648), 2147483647))), (((0, 6), ((-1), 255)), (((-1), 255), ((-1), 255)))), (((((-1), 255), ((-1), 255)), (((-1), 255), (0, 99))), ((((-2147483648), 2147483647), (0, 99)), ((0, 99), ((-2147483648), 2147483647))))), ((((((-2147483648), 2147483647), (0, 8)), (((-2147483648), 2147483647), (0, 6))), ((((-1), 255), ((-1), 255)), (((-1), 255), ((-1), 255)))), (((((-1), 255), ((-1), 255)), ((0, 99), ((-2147483648), 2147483647))), (((0, 99), (0, 99)), (((-2147483648), 2147483647), ((-2147483648), 2147483647)))))), ((((((0, 8), ((-2147483648), 2147483647)), ((0, 6), ((-1), 255))), ((((-1), 255), ((-1), 255)), (((-1), 255), ((-1), 255)))), (((((-1), 255), (0, 99)), (((-2147483648), 2147483647), (0, 99))), (((0, 99), ((-2147483648), 2147483647)), (((-2147483648), 2147483647), (0, 8))))), ((((((-2147483648), 2147483647), (0, 6)), (((-1), 255), ((-1), 255))), ((((-1), 255), ((-1), 255)), (((-1), 255), ((-1), 255)))), ((((0, 99), ((-2147483648), 2147483647)), ((0, 99), (0, 99))), ((((-2147483648), 2147483647), ((-2147483648), 2147483647)), ((0, 8), ((-2147483648), 2147483647)))))))), ((((((((0, 6), ((-1), 255)), (((-1), 255), ((-1), 255))), ((((-1), 255), ((-1), 255)), (((-1), 255), (0, 99)))), (((((-2147483648), 2147483647), (0, 99)), ((0, 99), ((-2147483648), 2147483647))), ((((-2147483648), 2147483647), (0, 8)), (((-2147483648), 2147483647), (0, 6))))), ((((((-1), 255), ((-1), 255)), (((-1), 255), ((-1), 255))), ((((-1), 255), ((-1), 255)), ((0, 99), ((-2147483648), 2147483647)))), ((((0, 99), (0, 99)), (((-2147483648), 2147483647), ((-2147483648), 2147483647))), (((0, 8), ((-2147483648), 2147483647)), ((0, 6), ((-1), 255)))))), (((((((-1), 255), ((-1), 255)), (((-1), 255), ((-1), 255))), ((((-1), 255), (0, 99)), (((-2147483648), 2147483647), (0, 99)))), ((((0, 99), ((-2147483648), 2147483647)), (((-2147483648), 2147483647), (0, 8))), ((((-2147483648), 2147483647), (0, 6)), (((-1), 255), ((-1), 255))))), ((((((-1), 255), ((-1), 255)), (((-1), 255), ((-1), 255))), (((0, 99), ((-2147483648), 2147483647)), ((0, 99), (0, 99)))), (((((-2147483648), 2147483647), ((-2147483648), 2147483647)), ((0, 8), ((-2147483648), 2147483647))), (((0, 6), ((-1), 255)), (((-1), 255), ((-1), 255))))))), ((((((((-1), 255), ((-1), 255)), (((-1), 255), (0, 99))), ((((-2147483648), 2147483647), (0, 99)), ((0, 99), ((-2147483648), 2147483647)))), (((((-2147483648), 2147483647), (0, 8)), (((-2147483648), 2147483647), (0, 6))), ((((-1), 255), ((-1), 255)), (((-1), 255), ((-1), 255))))), ((((((-1), 255), ((-1), 255)), ((0, 99), (0, 3))), ((((-2147483648), 2147483647), ((-2147483648), 2147483647)), (((-2147483648), 2147483647), ((-2147483648), 2147483647)))), ((((0, 3), (0, 11)), ((0, 11), (0, 11))), (((0, 6), ((-1), 255)), (((-1), 255), ((-1), 255)))))), (((((((-1), 255), ((-1), 255)), (((-1), 255), (0, 99))), (((0, 3), ((-2147483648), 2147483647)), (((-2147483648), 2147483647), ((-2147483648), 2147483647)))), (((((-2147483648), 2147483647), (0, 3)), ((0, 11), (0, 11))), (((0, 11), (0, 6)), (((-1), 255), ((-1), 255))))), ((((((-1), 255), ((-1), 255)), (((-1), 255), ((-1), 255))), (((0, 99), (0, 3)), (((-2147483648), 2147483647), ((-2147483648), 2147483647)))), (((((-2147483648), 2147483647), ((-2147483648), 2147483647)), ((0, 3), (0, 11))), (((0, 11), (0, 11)), ((0, 6), ((-1), 255))))))))), ((((((((((-1), 255), ((-1), 255)), (((-1), 255), ((-1), 255))), ((((-1), 255), (0, 99)), ((0, 3), ((-2147483648), 2147483647)))), (((((-2147483648), 2147483647), ((-2147483648), 2147483647)), (((-2147483648), 2147483647), (0, 3))), (((0, 11), (0, 11)), ((0, 11), (0, 6))))), ((((((-1), 255), ((-1), 255)), (((-1), 255), ((-1), 255))), ((((-1), 255), ((-1), 255)), ((0, 99), (0, 3)))), (((((-2147483648), 2147483647), ((-2147483648), 2147483647)), (((-2147483648), 2147483647), ((-2147483648), 2147483647))), (((0, 3), (0, 11)), ((0, 11), (0, 11)))))), ((((((0, 6), ((-1), 255)), (((-1), 255), ((-1), 255))), ((((-1), 255), ((-1), 255)), (((-1), 255), (0, 99)))), ((((0, 3), ((-2147483648), 2147483647)), (((-2147483648), 2147483647), ((-2147483648), 2147483647))), ((((-2147483648), 2147483647), (0, 3)), ((0, 11), (0, 11))))), (((((0, 11), (0, 6)), (((-1), 255), ((-1), 255))), ((((-1), 255), ((-1), 255)), (((-1), 255), ((-1), 255)))), ((((0, 99), (0, 3)), (((-2147483648), 2147483647), ((-2147483648), 2147483647))), ((((-2147483648), 2147483647), ((-2147483648), 2147483647)), ((0, 3), (0, 11))))))), (((((((0, 11), (0, 11)), ((0, 6), ((-1), 255))), ((((-1), 255), ((-1), 255)), (((-1), 255), ((-1), 255)))), (((((-1), 255), (0, 99)), ((0, 3), ((-2147483648), 2147483647))), ((((-2147483648), 2147483647), ((-2147483648), 2147483647)), (((-2147483648), 2147483647), (0, 3))))), (((((0, 11), (0, 11)), ((0, 11), ((-2147483648), 2147483647))), ((((-2147483648), 2147483647), ((-2147483648), 2147483647)), (((-2147483648), 2147483647), ((-2147483648), 2147483647)))), (((((-2147483648), 2147483647), ((-2147483648), 2147483647)), (((-2147483648), 2147483647), ((-2147483648), 2147483647))), ((((-2147483648), 2147483647), ((-2147483648), 2147483647)), (((-2147483648), 2147483647), ((-2147483648), 2147483647)))))), (((((((-2147483648), 2147483647), ((-2147483648), 2147483647)), (((-2147483648), 2147483647), ((-2147483648), 2147483647))), ((((-2147483648), 2147483647), ((-2147483648), 2147483647)), (((-2147483648), 2147483647), ((-2147483648), 2147483647)))), (((((-2147483648), 2147483647), ((-2147483648), 2147483647)), (((-2147483648), 2147483647), ((-2147483648), 2147483647))), ((((-2147483648), 2147483647), ((-2147483648), 2147483647)), (((-2147483648), 2147483647), ((-2147483648), 2147483647))))), ((((((-2147483648), 2147483647), ((-2147483648), 2147483647)), (((-2147483648), 2147483647), ((-2147483648), 2147483647))), ((((-2147483648), 2147483647), ((-2147483648), 2147483647)), (((-2147483648), 2147483647), ((-2147483648), 2147483647)))), (((((-2147483648), 2147483647), ((-2147483648), 2147483647)), (((-2147483648), 2147483647), ((-2147483648), 2147483647))), ((((-2147483648), 2147483647), ((-2147483648), 2147483647)), (((-2147483648), 2147483647), ((-2147483648), 2147483647)))))))), (((((((((-2147483648), 2147483647), ((-2147483648), 2147483647)), (((-2147483648), 2147483647), ((-2147483648), 2147483647))), ((((-2147483648), 2147483647), ((-2147483648), 2147483647)), (((-2147483648), 2147483647), ((-2147483648), 2147483647)))), (((((-2147483648), 2147483647), ((-2147483648), 2147483647)), (((-2147483648), 2147483647), ((-2147483648), 2147483647))), ((((-2147483648), 2147483647), ((-2147483648), 2147483647)), (((-2147483648), 2147483647), ((-2147483648), 2147483647))))), ((((((-2147483648), 2147483647), ((-2147483648), 2147483647)), (((-2147483648), 2147483647), ((-2147483648), 2147483647))), ((((-2147483648), 2147483647), ((-2147483648), 2147483647)), (((-2147483648), 2147483647), ((-2147483648), 2147483647)))), (((((-2147483648), 2147483647), ((-2147483648), 2147483647)), (((-2147483648), 2147483647), ((-2147483648), 2147483647))), ((((-2147483648), 2147483647), ((-2147483648), 2147483647)), (((-2147483648), 2147483647), ((-2147483648), 2147483647)))))), (((((((-2147483648), 2147483647), ((-2147483648), 2147483647)), (((-2147483648), 2147483647), ((-2147483648), 2147483647))), ((((-2147483648), 2147483647), ((-2147483648), 2147483647)), (((-2147483648), 2147483647), ((-2147483648), 2147483647)))), (((((-2147483648), 2147483647), ((-2147483648), 2147483647)), (((-2147483648), 2147483647), ((-2147483648), 2147483647))), ((((-2147483648), 2147483647), ((-2147483648), 2147483647)), (((-2147483648), 2147483647), ((-2147483648), 2147483647))))), ((((((-2147483648), 2147483647), ((-2147483648), 2147483647)), (((-2147483648), 2147483647), ((-2147483648), 2147483647))), ((((-2147483648), 2147483647), ((-2147483648), 2147483647)), (((-2147483648), 2147483647), ((-2147483648), 2147483647)))), (((((-2147483648), 2147483647), ((-2147483648), 2147483647)), (((-2147483648), 2147483647), ((-2147483648), 2147483647))), ((((-2147483648), 2147483647), ((-2147483648), 2147483647)), (((-2147483648), 2147483647), ((-2147483648), 2147483647))))))), ((((((((-2147483648), 2147483647), ((-2147483648), 2147483647)), (((-2147483648), 2147483647), ((-2147483648), 2147483647))), ((((-2147483648), 2147483647), ((-2147483648), 2147483647)), (((-2147483648), 2147483647), ((-2147483648), 2147483647)))), (((((-2147483648), 2147483647), ((-2147483648), 2147483647)), (((-2147483648), 2147483647), ((-2147483648), 2147483647))), ((((-2147483648), 2147483647), ((-2147483648), 2147483647)), (((-2147483648), 2147483647), ((-2147483648), 2147483647))))), ((((((-2147483648), 2147483647), ((-2147483648), 2147483647)), (((-2147483648), 2147483647), ((-2147483648), 2147483647))), ((((-2147483648), 2147483647), ((-2147483648), 2147483647)), (((-2147483648), 2147483647), ((-2147483648), 2147483647)))), (((((-2147483648), 2147483647), ((-2147483648), 2147483647)), (((-2147483648), 2147483647), ((-2147483648), 2147483647))), ((((-2147483648), 2147483647), ((-2147483648), 2147483647)), (((-2147483648), 2147483647), ((-2147483648), 2147483647)))))), (((((((-2147483648), 2147483647), ((-2147483648), 2147483647)), (((-2147483648), 2147483647), ((-2147483648), 2147483647))), ((((-2147483648), 2147483647), ((-2147483648), 2147483647)), (((-2147483648), 2147483647), ((-2147483648), 2147483647)))), (((((-2147483648), 2147483647), ((-2147483648), 2147483647)), (((-2147483648), 2147483647), ((-2147483648), 2147483647))), ((((-2147483648), 2147483647), ((-2147483648), 2147483647)), (((-2147483648), 2147483647), ((-2147483648), 2147483647))))), ((((((-2147483648), 2147483647), ((-2147483648), 2147483647)), (((-2147483648), 2147483647), ((-2147483648), 2147483647))), ((((-2147483648), 2147483647), ((-2147483648), 2147483647)), (((-2147483648), 2147483647), ((-2147483648), 2147483647)))), (((((-2147483648), 2147483647), ((-2147483648), 2147483647)), (((-2147483648), 2147483647), ((-2147483648), 2147483647))), ((((-2147483648), 2147483647), ((-2147483648), 2147483647)), (((-2147483648), 2147483647), ((-2147483648), 2147483647)))))))))), (((((((((((-2147483648), 2147483647), ((-2147483648), 2147483647)), (((-2147483648), 2147483647), ((-2147483648), 2147483647))), ((((-2147483648), 2147483647), ((-2147483648), 2147483647)), (((-2147483648), 2147483647), ((-2147483648), 2147483647)))), (((((-2147483648), 2147483647), ((-2147483648), 2147483647)), (((-2147483648), 2147483647), ((-2147483648), 2147483647))), ((((-2147483648), 2147483647), ((-2147483648), 2147483647)), (((-2147483648), 2147483647), ((-2147483648), 2147483647))))), ((((((-2147483648), 2147483647), ((-2147483648), 2147483647)), (((-2147483648), 2147483647), ((-2147483648), 2147483647))), ((((-2147483648), 2147483647), ((-2147483648), 2147483647)), (((-2147483648), 2147483647), ((-2147483648), 2147483647)))), (((((-2147483648), 2147483647), ((-2147483648), 2147483647)), (((-2147483648), 2147483647), ((-2147483648), 2147483647))), ((((-2147483648), 2147483647), ((-2147483648), 2147483647)), (((-2147483648), 2147483647), ((-2147483648), 2147483647)))))), (((((((-2147483648), 2147483647), ((-2147483648), 2147483647)), (((-2147483648), 2147483647), ((-2147483648), 2147483647))), ((((-2147483648), 2147483647), ((-2147483648), 2147483647)), (((-2147483648), 2147483647), ((-2147483648), 2147483647)))), (((((-2147483648), 2147483647), ((-2147483648), 2147483647)), (((-2147483648), 2147483647), ((-2147483648), 2147483647))), ((((-2147483648), 2147483647), ((-2147483648), 2147483647)), (((-2147483648), 2147483647), ((-2147483648), 2147483647))))), ((((((-2147483648), 2147483647), ((-2147483648), 2147483647)), (((-2147483648), 2147483647), ((-2147483648), 2147483647))), ((((-2147483648), 2147483647), ((-2147483648), 2147483647)), (((-2147483648), 2147483647), ((-2147483648), 2147483647)))), (((((-2147483648), 2147483647), ((-2147483648), 2147483647)), (((-2147483648), 2147483647), ((-2147483648), 2147483647))), ((((-2147483648), 2147483647), ((-2147483648), 2147483647)), (((-2147483648), 2147483647), ((-2147483648), 2147483647))))))), ((((((((-2147483648), 2147483647), ((-2147483648), 2147483647)), (((-2147483648), 2147483647), ((-2147483648), 2147483647))), ((((-2147483648), 2147483647), ((-2147483648), 2147483647)), (((-2147483648), 2147483647), ((-2147483648), 2147483647)))), (((((-2147483648), 2147483647), ((-2147483648), 2147483647)), (((-2147483648), 2147483647), ((-2147483648), 2147483647))), ((((-2147483648), 2147483647), ((-2147483648), 2147483647)), (((-2147483648), 2147483647), ((-2147483648), 2147483647))))), ((((((-2147483648), 2147483647), ((-2147483648), 2147483647)), (((-2147483648), 2147483647), ((-2147483648), 2147483647))), ((((-2147483648), 2147483647), ((-2147483648), 2147483647)), (((-2147483648), 2147483647), ((-2147483648), 2147483647)))), (((((-2147483648), 2147483647), ((-2147483648), 2147483647)), (((-2147483648), 2147483647), ((-2147483648), 2147483647))), ((((-2147483648), 2147483647), ((-2147483648), 2147483647)), (((-2147483648), 2147483647), ((-2147483648), 2147483647)))))), (((((((-2147483648), 2147483647), ((-2147483648), 2147483647)), (((-2147483648), 2147483647), ((-2147483648), 2147483647))), ((((-2147483648), 2147483647), ((-2147483648), 2147483647)), (((-2147483648), 2147483647), ((-2147483648), 2147483647)))), (((((-2147483648), 2147483647), ((-2147483648), 2147483647)), (((-2147483648), 2147483647), ((-2147483648), 2147483647))), ((((-2147483648), 2147483647), ((-2147483648), 2147483647)), (((-2147483648), 2147483647), ((-2147483648), 2147483647))))), ((((((-2147483648), 2147483647), ((-2147483648), 2147483647)), (((-2147483648), 2147483647), (0, 0))), (((0, 0), (0, 0)), ((0, 0), (0, 0)))), ((((0, 0), (0, 0)), ((0, 0), (0, 0))), (((0, 0), (0, 0)), ((0, 0), (0, 0)))))))), ((((((((0, 0), (0, 0)), ((0, 0), (0, 0))), (((0, 0), (0, 0)), ((0, 0), (0, 0)))), ((((0, 0), (0, 0)), ((0, 0), (0, 0))), (((0, 0), (0, 0)), ((0, 0), (0, 0))))), (((((0, 0), (0, 0)), ((0, 0), (0, 0))), (((0, 0), (0, 0)), ((0, 0), (0, 0)))), ((((0, 0), (0, 0)), ((0, 0), (0, 0))), (((0, 0), (0, 0)), ((0, 0), (0, 0)))))), ((((((0, 0), (0, 0)), ((0, 0), (0, 0))), (((0, 0), (0, 0)), ((0, 0), (0, 0)))), ((((0, 0), (0, 0)), ((0, 0), (0, 0))), (((0, 0), (0, 0)), ((0, 0), (0, 0))))), (((((0, 0), (0, 0)), ((0, 0), (0, 0))), (((0, 0), (0, 0)), ((0, 0), (0, 0)))), ((((0, 0), (0, 0)), ((0, 0), (0, 0))), (((0, 0), (0, 0)), ((0, 0), (0, 0))))))), (((((((0, 0), (0, 0)), ((0, 0), (0, 0))), (((0, 0), (0, 0)), ((0, 0), (0, 0)))), ((((0, 0), (0, 0)), ((0, 0), (0, 0))), (((0, 0), (0, 0)), ((0, 0), (0, 0))))), (((((0, 0), (0, 0)), ((0, 0), (0, 0))), (((0, 0), (0, 0)), ((0, 0), (0, 0)))), ((((0, 0), (0, 0)), ((0, 0), (0, 0))), (((0, 0), (0, 0)), ((0, 0), (0, 0)))))), ((((((0, 0), (0, 0)), ((0, 0), (0, 0))), (((0, 0), (0, 0)), ((0, 0), (0, 0)))), ((((0, 0), (0, 0)), ((0, 0), (0, 0))), (((0, 0), (0, 0)), ((0, 0), (0, 0))))), (((((0, 0), (0, 0)), ((0, 0), (0, 0))), (((0, 0), (0, 0)), ((0, 0), (0, 0)))), ((((0, 0), (0, 0)), ((0, 0), (0, 0))), (((0, 0), (0, 0)), ((0, 0), (0, 0))))))))), (((((((((0, 0), (0, 0)), ((0, 0), (0, 0))), (((0, 0), (0, 0)), ((0, 0), (0, 0)))), ((((0, 0), (0, 0)), ((0, 0), (0, 0))), (((0, 0), (0, 0)), ((0, 0), (0, 0))))), (((((0, 0), (0, 0)), ((0, 0), (0, 0))), (((0, 0), (0, 0)), ((0, 0), (0, 0)))), ((((0, 0), (0, 0)), ((0, 0), (0, 0))), (((0, 0), (0, 0)), ((0, 0), (0, 0)))))), ((((((0, 0), (0, 0)), ((0, 0), (0, 0))), (((0, 0), (0, 0)), ((0, 0), (0, 0)))), ((((0, 0), (0, 0)), ((0, 0), (0, 0))), (((0, 0), (0, 0)), ((0, 0), (0, 0))))), (((((0, 0), (0, 0)), ((0, 0), (0, 0))), (((0, 0), (0, 0)), ((0, 0), (0, 0)))), ((((0, 0), (0, 0)), ((0, 0), (0, 0))), (((0, 0), (0, 0)), ((0, 0), (0, 0))))))), (((((((0, 0), (0, 0)), ((0, 0), (0, 0))), (((0, 0), (0, 0)), ((0, 0), (0, 0)))), ((((0, 0), (0, 0)), ((0, 0), (0, 0))), (((0, 0), (0, 0)), ((0, 0), (0, 0))))), (((((0, 0), (0, 0)), ((0, 0), (0, 0))), (((0, 0), (0, 0)), ((0, 0), (0, 0)))), ((((0, 0), (0, 0)), ((0, 0), (0, 0))), (((0, 0), (0, 0)), ((0, 0), (0, 0)))))), ((((((0, 0), (0, 0)), ((0, 0), (0, 0))), (((0, 0), (0, 0)), ((0, 0), (0, 0)))), ((((0, 0), (0, 0)), ((0, 0), (0, 0))), (((0, 0), (0, 0)), ((0, 0), (0, 0))))), (((((0, 0), (0, 0)), ((0, 0), (0, 0))), (((0, 0), (0, 0)), ((0, 0), (0, 0)))), ((((0, 0), (0, 0)), ((0, 0), (0, 0))), (((0, 0), (0, 0)), ((0, 0), (0, 0)))))))), ((((((((0, 0), (0, 0)), ((0, 0), (0, 0))), (((0, 0), (0, 0)), ((0, 0), (0, 0)))), ((((0, 0), (0, 0)), ((0, 0), (0, 0))), (((0, 0), (0, 0)), ((0, 0), (0, 0))))), (((((0, 0), (0, 0)), ((0, 0), (0, 0))), (((0, 0), (0, 0)), ((0, 0), (0, 0)))), ((((0, 0), (0, 0)), ((0, 0), (0, 0))), (((0, 0), (0, 0)), ((0, 0), (0, 0)))))), ((((((0, 0), (0, 0)), ((0, 0), (0, 0))), (((0, 0), (0, 0)), ((0, 0), (0, 0)))), ((((0, 0), (0, 0)), ((0, 0), (0, 0))), (((0, 0), (0, 0)), ((0, 0), (0, 0))))), (((((0, 0), (0, 0)), ((0, 0), (0, 0))), (((0, 0), (0, 0)), ((0, 0), (0, 0)))), ((((0, 0), (0, 0)), ((0, 0), (0, 0))), (((0, 0), (0, 0)), ((0, 0), (0, 0))))))), (((((((0, 0), (0, 0)), ((0, 0), (0, 0))), (((0, 0), (0, 0)), ((0, 0), (0, 0)))), ((((0, 0), (0, 0)), ((0, 0), (0, 0))), (((0, 0), (0, 0)), ((0, 0), (0, 0))))), (((((0, 0), (0, 0)), ((0, 0), (0, 0))), (((0, 0), (0, 0)), ((0, 0), (0, 0)))), ((((0, 0), (0, 0)), ((0, 0), (0, 0))), (((0, 0), (0, 0)), ((0, 0), (0, 0)))))), ((((((0, 0), (0, 0)), ((0, 0), (0, 0))), (((0, 0), (0, 0)), ((0, 0), (0, 0)))), ((((0, 0), (0, 0)), ((0, 0), (0, 0))), (((0, 0), (0, 0)), ((0, 0), (0, 0))))), (((((0, 0), (0, 0)), ((0, 0), (0, 0))), (((0, 0), (0, 0)), ((0, 0), (0, 0)))), ((((0, 0), (0, 0)), ((0, 0), (0, 0))), (((0, 0), (0, 0)), ((0, 0), (0, 0)))))))))))
noncomputable def bdT : TrT ((Int × Int) ⊕ List (Int × Int) ⊕ Unit) 6 := ((((((.inr (.inl [(0, 0), (0, 0), (0, 0), (0, 0), (0, 0), (0, 0), (0, 0), (0, 1), (0, 0), (0, 0), (0, 0), (0, 0), (0, 0), ((-2147483648), 2147483647), ((-2147483648), 2147483647)]), .inr (.inl [(0, 0), (0, 900)])), (.inr (.inl [(0, 0), (0, 160)]), .inr (.inl [((-2147483648), 2147483647), (0, 0), (0, 12)]))), ((.inr (.inl [(0, 0), (0, 0), (0, 12), (0, 8), ((-2147483648), 2147483647), ((-2147483648), 2147483647), ((-2147483648), 2147483647), ((-2147483648), 2147483647), ((-2147483648), 2147483647), ((-2147483648), 2147483647), ((-2147483648), 2147483647)]), .inr (.inl [(0, 0), ((-2147483648), 2147483647), ((-2147483648), 2147483647), ((-2147483648), 2147483647), ((-2147483648), 2147483647), ((-2147483648), 2147483647), ((-2147483648), 2147483647), ((-1), 7), ((-2147483648), 2147483647)])), (.inr (.inl [(0, 0), ((-2147483648), 2147483647), ((-2147483648), 2147483647), ((-2147483648), 2147483647), ((-2147483648), 2147483647), (0, 0), (0, 3), ((-2147483648), 2147483647), ((-2147483648), 2147483647), (0, 0), ((-2147483648), 2147483647), ((-2147483648), 2147483647)]), .inr (.inl [((-2147483648), 2147483647), (0, 0), (0, 12)])))), (((.inr (.inl [(0, 0), (0, 7), (0, 8)]), .inr (.inl [(0, 0), (0, 0), (0, 0), (0, 0), (0, 0), (0, 108)])), (.inr (.inl [(0, 0), (0, 900), ((-2147483648), 2147483647), (0, 900), ((-2147483648), 2147483647), ((-2147483648), 2147483647), ((-2147483648), 2147483647), ((-2147483648), 2147483647)]), .inr (.inl [(0, 0), (0, 0), (0, 0)]))), ((.inr (.inl [(0, 0), (0, 0), (0, 0), (0, 0), (0, 30)]), .inr (.inl [(0, 0), (0, 0), (0, 0), (0, 0), (0, 0), (0, 8), ((-2147483648), 2147483647), (0, 1), (0, 0), (0, 0), (0, 0), (0, 0), (0, 15), (0, 200), ((-2147483648), 2147483647), (0, 0), (0, 900), (0, 901), (0, 901), (0, 900), (0, 4), ((-2147483648), 2147483647), ((-2147483648), 2147483647), ((-2147483648), 2147483647), (0, 0), (0, 30), (0, 0), (0, 256)])), (.inl ((-128), 127), .inl ((-128), 127))))), ((((.inl ((-2147483648), 2147483647), .inl (0, 0)), (.inl (0, 0), .inl (0, 11))), ((.inl ((-2147483648), 2147483647), .inl ((-2147483648), 2147483647)), (.inl (0, 0), .inl ((-2147483648), 2147483647)))), (((.inl ((-1), 7), .inl ((-2147483648), 2147483647)), (.inl ((-2147483648), 2147483647), .inl (0, 11))), ((.inl ((-2147483648), 2147483647), .inl ((-2147483648), 2147483647)), (.inl ((-2147483648), 2147483647), .inr (.inr ())))))), (((((.inr (.inr ()), .inr (.inr ())), (.inr (.inr ()), .inr (.inr ()))), ((.inl (0, 11), .inl (0, 11)), (.inl (0, 3), .inl (0, 1)))), (((.inl (0, 255), .inl ((-2147483648), 2147483647)), (.inl ((-2147483648), 2147483647), .inl (0, 0))), ((.inl (0, 0), .inl (0, 0)), (.inl (0, 0), .inl (0, 0))))), ((((.inl (0, 0), .inl (0, 0)), (.inl (0, 0), .inl (0, 0))), ((.inl (0, 0), .inl (0, 0)), (.inl (0, 0), .inl (0, 0)))), (((.inl (0, 0), .inl (0, 0)), (.inl (0, 0), .inl (0, 0))), ((.inl (0, 0), .inl (0, 0)), (.inl (0, 0), .inl (0, 0)))))))
noncomputable def nthP (l : List (Int × Int)) : Nat → Int × Int := List.rec (motive := fun _ => Nat → Int × Int) (fun _ => (0, 0)) (fun x _ ih i => Nat.rec x (fun j _ => ih j) i) l
noncomputable def bd0 (κ : Nat) (v : Int) : Int × Int := match tget 6 bdT κ with
  | .inl b => b
  | .inr (.inl l) => nthP l v.toNat
  | .inr (.inr _) => tget 10 rowT (v.toNat % 627)
noncomputable def un0 (κ : Nat) : Bool := match tget 6 bdT κ with | .inl _ => true | _ => false
theorem hu0 : ∀ κ v, un0 κ = true → bd0 κ v = bd0 κ 0 := by
  intro κ v h
  unfold un0 at h
  unfold bd0
  cases hb : tget 6 bdT κ with
  | inl b => rfl
  | inr q => rw [hb] at h; cases h
noncomputable def prT : TrT Bool 10 := ((((((((((false, false), (false, false)), ((false, false), (false, false))), (((false, false), (false, false)), ((false, false), (false, false)))), ((((false, false), (false, false)), ((false, false), (false, false))), (((false, false), (false, false)), ((false, false), (false, false))))), (((((false, false), (false, false)), ((true, false), (false, false))), (((false, false), (false, false)), ((false, false), (false, false)))), ((((false, false), (false, true)), ((false, false), (false, false))), (((false, false), (false, false)), ((false, false), (false, false)))))), ((((((false, false), (true, false)), ((false, false), (false, false))), (((false, false), (false, false)), ((false, false), (false, false)))), ((((false, true), (false, false)), ((false, false), (false, false))), (((false, false), (false, false)), ((false, false), (false, false))))), (((((true, false), (false, false)), ((false, false), (false, false))), (((false, false), (false, false)), ((false, false), (false, true)))), ((((false, false), (false, false)), ((false, false), (false, false))), (((false, false), (false, false)), ((false, false), (true, false))))))), (((((((false, false), (false, false)), ((false, false), (false, false))), (((false, false), (false, false)), ((false, true), (false, false)))), ((((false, false), (false, false)), ((false, false), (false, false))), (((false, false), (false, false)), ((true, false), (false, false))))), (((((false, false), (false, false)), ((false, false), (false, false))), (((false, false), (false, true)), ((false, false), (false, false)))), ((((false, false), (false, false)), ((false, false), (false, false))), (((false, false), (true, false)), ((false, false), (false, false)))))), ((((((false, false), (false, false)), ((false, false), (false, false))), (((false, true), (false, false)), ((false, false), (false, false)))), ((((false, false), (false, false)), ((false, false), (false, false))), (((true, true), (true, true)), ((false, false), (false, false))))), (((((false, false), (false, false)), ((false, false), (false, false))), (((false, true), (true, true)), ((true, false), (false, false)))), ((((false, false), (false, false)), ((false, false), (false, false))), (((false, false), (true, true)), ((true, true), (false, false)))))))), ((((((((false, false), (false, false)), ((false, false), (false, false))), (((false, false), (false, true)), ((true, true), (true, false)))), ((((false, false), (false, false)), ((false, false), (false, false))), (((false, false), (false, false)), ((true, true), (true, true))))), (((((false, false), (false, false)), ((false, false), (false, false))), (((false, false), (false, false)), ((false, true), (true, true)))), ((((true, false), (false, false)), ((false, false), (false, false))), (((false, false), (false, false)), ((false, false), (true, true)))))), ((((((true, true), (false, false)), ((false, false), (false, false))), (((false, false), (false, false)), ((false, false), (false, true)))), ((((true, true), (true, false)), ((false, false), (false, false))), (((false, false), (false, false)), ((false, false), (false, false))))), (((((false, false), (false, false)), ((false, false), (false, false))), (((false, false), (false, false)), ((false, false), (false, false)))), ((((false, false), (false, false)), ((false, false), (false, false))), (((false, false), (false, false)), ((false, false), (false, false))))))), (((((((false, false), (false, false)), ((false, false), (false, false))), (((false, false), (false, false)), ((false, false), (false, false)))), ((((false, false), (false, false)), ((false, false), (false, false))), (((false, false), (false, false)), ((false, false), (false, false))))), (((((false, false), (false, false)), ((false, false), (false, false))), (((false, false), (false, false)), ((false, false), (false, false)))), ((((false, false), (false, false)), ((false, false), (false, false))), (((false, false), (false, false)), ((false, false), (false, false)))))), ((((((false, false), (false, false)), ((false, false), (false, false))), (((false, false), (false, false)), ((false, false), (false, false)))), ((((false, false), (false, false)), ((false, false), (false, false))), (((false, false), (false, false)), ((false, false), (false, false))))), (((((false, false), (false, false)), ((false, false), (false, false))), (((false, false), (false, false)), ((false, false), (false, false)))), ((((false, false), (false, false)), ((false, false), (false, false))), (((false, false), (false, false)), ((false, false), (false, false))))))))), (((((((((false, false), (false, false)), ((false, false), (false, false))), (((false, false), (false, false)), ((false, false), (false, false)))), ((((false, false), (false, false)), ((false, false), (false, false))), (((false, false), (false, false)), ((false, false), (false, false))))), (((((false, false), (false, false)), ((false, false), (false, false))), (((false, false), (false, false)), ((false, false), (false, false)))), ((((false, false), (false, false)), ((false, false), (false, false))), (((false, false), (false, false)), ((false, false), (false, false)))))), ((((((false, false), (false, false)), ((false, false), (false, false))), (((false, false), (false, false)), ((false, false), (false, false)))), ((((false, false), (false, false)), ((false, false), (false, false))), (((false, false), (false, false)), ((false, false), (false, false))))), (((((false, false), (false, false)), ((false, false), (false, false))), (((false, false), (false, false)), ((false, false), (false, false)))), ((((false, false), (false, false)), ((false, false), (false, false))), (((false, false), (false, false)), ((false, false), (false, false))))))), (((((((false, false), (false, false)), ((false, false), (false, false))), (((false, false), (false, false)), ((false, false), (false, false)))), ((((false, false), (false, false)), ((false, false), (false, false))), (((false, false), (false, false)), ((false, false), (false, false))))), (((((false, false), (false, false)), ((false, false), (false, false))), (((false, false), (false, false)), ((false, false), (false, false)))), ((((false, false), (false, false)), ((false, false), (false, false))), (((false, false), (false, false)), ((false, false), (false, false)))))), ((((((false, false), (false, false)), ((false, false), (false, false))), (((false, false), (false, false)), ((false, false), (false, false)))), ((((false, false), (false, false)), ((false, false), (false, false))), (((false, false), (false, false)), ((false, false), (false, false))))), (((((false, false), (false, false)), ((false, false), (false, false))), (((false, false), (false, false)), ((false, false), (false, false)))), ((((false, false), (false, false)), ((false, false), (false, false))), (((false, false), (false, false)), ((false, false), (false, false)))))))), ((((((((false, false), (false, false)), ((false, false), (false, false))), (((false, false), (false, false)), ((false, false), (false, false)))), ((((false, false), (false, false)), ((false, false), (false, false))), (((false, false), (false, false)), ((false, false), (false, false))))), (((((false, false), (false, false)), ((false, false), (false, false))), (((false, false), (false, false)), ((false, false), (false, false)))), ((((false, false), (false, false)), ((false, false), (false, false))), (((false, false), (false, false)), ((false, false), (false, false)))))), ((((((false, false), (false, false)), ((false, false), (false, false))), (((false, false), (false, false)), ((false, false), (false, false)))), ((((false, false), (false, false)), ((false, false), (false, false))), (((false, false), (false, false)), ((false, false), (false, false))))), (((((false, false), (false, false)), ((false, false), (false, false))), (((false, false), (false, false)), ((false, false), (false, false)))), ((((false, false), (false, false)), ((false, false), (false, false))), (((false, false), (false, false)), ((false, false), (false, false))))))), (((((((false, false), (false, false)), ((false, false), (false, false))), (((false, false), (false, false)), ((false, false), (false, false)))), ((((false, false), (false, false)), ((false, false), (false, false))), (((false, false), (false, false)), ((false, false), (false, false))))), (((((false, false), (false, false)), ((false, false), (false, false))), (((false, false), (false, false)), ((false, false), (false, false)))), ((((false, false), (false, false)), ((false, false), (false, false))), (((false, false), (false, false)), ((false, false), (false, false)))))), ((((((false, false), (false, false)), ((false, false), (false, false))), (((false, false), (false, false)), ((false, false), (false, false)))), ((((false, false), (false, false)), ((false, false), (false, false))), (((false, false), (false, false)), ((false, false), (false, false))))), (((((false, false), (false, false)), ((false, false), (false, false))), (((false, false), (false, false)), ((false, false), (false, false)))), ((((false, false), (false, false)), ((false, false), (false, false))), (((false, false), (false, false)), ((false, false), (false, false))))))))))
noncomputable def prG : TrT Bool 10 := ((((((((((true, true), (false, true)), ((true, false), (false, false))), (((false, false), (false, false)), ((false, false), (false, false)))), ((((false, false), (false, false)), ((false, false), (false, false))), (((false, false), (false, false)), ((false, false), (false, false))))), (((((false, false), (false, false)), ((false, false), (false, false))), (((false, false), (false, false)), ((false, false), (false, false)))), ((((false, false), (false, false)), ((false, false), (false, false))), (((false, false), (false, false)), ((false, false), (false, false)))))), ((((((false, false), (false, false)), ((false, false), (false, false))), (((false, false), (false, false)), ((false, false), (false, false)))), ((((false, false), (false, false)), ((false, false), (false, false))), (((false, false), (false, false)), ((false, false), (false, false))))), (((((false, false), (false, false)), ((false, false), (false, false))), (((false, false), (false, false)), ((false, false), (false, false)))), ((((false, false), (false, false)), ((false, false), (false, false))), (((false, false), (false, false)), ((false, false), (false, false))))))), (((((((false, false), (false, false)), ((false, false), (false, false))), (((false, false), (false, false)), ((false, false), (false, false)))), ((((false, false), (false, false)), ((false, false), (false, false))), (((false, false), (false, false)), ((false, false), (false, false))))), (((((false, false), (false, false)), ((false, false), (false, false))), (((false, false), (false, false)), ((false, false), (false, false)))), ((((false, false), (false, false)), ((false, false), (false, false))), (((false, false), (false, false)), ((false, false), (false, false)))))), ((((((false, false), (false, false)), ((false, false), (false, false))), (((false, false), (false, false)), ((false, false), (false, false)))), ((((false, false), (false, false)), ((false, false), (false, false))), (((false, false), (false, false)), ((false, false), (false, false))))), (((((false, false), (false, false)), ((false, false), (false, false))), (((false, false), (false, false)), ((false, false), (false, false)))), ((((false, false), (false, false)), ((false, false), (false, false))), (((false, false), (false, false)), ((false, false), (false, false)))))))), ((((((((false, false), (false, false)), ((false, false), (false, false))), (((false, false), (false, false)), ((false, false), (false, false)))), ((((false, false), (false, false)), ((false, false), (false, false))), (((false, false), (false, false)), ((false, false), (false, false))))), (((((false, false), (false, false)), ((false, false), (false, false))), (((false, false), (false, false)), ((false, false), (false, false)))), ((((false, false), (false, false)), ((false, false), (false, false))), (((false, false), (false, false)), ((false, false), (false, false)))))), ((((((false, false), (false, false)), ((false, false), (false, false))), (((false, false), (false, false)), ((false, false), (false, false)))), ((((false, false), (false, false)), ((false, false), (false, false))), (((false, false), (false, false)), ((false, false), (false, false))))), (((((false, false), (false, false)), ((false, false), (false, false))), (((false, false), (false, false)), ((false, false), (false, false)))), ((((false, false), (false, false)), ((false, false), (false, false))), (((false, false), (false, false)), ((false, false), (false, false))))))), (((((((false, false), (false, false)), ((false, false), (false, false))), (((false, false), (false, false)), ((false, false), (false, false)))), ((((false, false), (false, false)), ((false, false), (false, false))), (((false, false), (false, false)), ((false, false), (false, false))))), (((((false, false), (false, false)), ((false, false), (false, false))), (((false, false), (false, false)), ((false, false), (false, false)))), ((((false, false), (false, false)), ((false, false), (false, false))), (((false, false), (false, false)), ((false, false), (false, false)))))), ((((((false, false), (false, false)), ((false, false), (false, false))), (((false, false), (false, false)), ((false, false), (false, false)))), ((((false, false), (false, false)), ((false, false), (false, false))), (((false, false), (false, false)), ((false, false), (false, false))))), (((((false, false), (false, false)), ((false, false), (false, false))), (((false, false), (false, false)), ((false, false), (false, false)))), ((((false, false), (false, false)), ((false, false), (false, false))), (((false, false), (false, false)), ((false, false), (false, false))))))))), (((((((((false, false), (false, false)), ((false, false), (false, false))), (((false, false), (false, false)), ((false, false), (false, false)))), ((((false, false), (false, false)), ((false, false), (false, false))), (((false, false), (false, false)), ((false, false), (false, false))))), (((((false, false), (false, false)), ((false, false), (false, false))), (((false, false), (false, false)), ((false, false), (false, false)))), ((((false, false), (false, false)), ((false, false), (false, false))), (((false, false), (false, false)), ((false, false), (false, false)))))), ((((((false, false), (false, false)), ((false, false), (false, false))), (((false, false), (false, false)), ((false, false), (false, false)))), ((((false, false), (false, false)), ((false, false), (false, false))), (((false, false), (false, false)), ((false, false), (false, false))))), (((((false, false), (false, false)), ((false, false), (false, false))), (((false, false), (false, false)), ((false, false), (false, false)))), ((((false, false), (false, false)), ((false, false), (false, false))), (((false, false), (false, false)), ((false, false), (false, false))))))), (((((((false, false), (false, false)), ((false, false), (false, false))), (((false, false), (false, false)), ((false, false), (false, false)))), ((((false, false), (false, false)), ((false, false), (false, false))), (((false, false), (false, false)), ((false, false), (false, false))))), (((((false, false), (false, false)), ((false, false), (false, false))), (((false, false), (false, false)), ((false, false), (false, false)))), ((((false, false), (false, false)), ((false, false), (false, false))), (((false, false), (false, false)), ((false, false), (false, false)))))), ((((((false, false), (false, false)), ((false, false), (false, false))), (((false, false), (false, false)), ((false, false), (false, false)))), ((((false, false), (false, false)), ((false, false), (false, false))), (((false, false), (false, false)), ((false, false), (false, false))))), (((((false, false), (false, false)), ((false, false), (false, false))), (((false, false), (false, false)), ((false, false), (false, false)))), ((((false, false), (false, false)), ((false, false), (false, false))), (((false, false), (false, false)), ((false, false), (false, false)))))))), ((((((((false, false), (false, false)), ((false, false), (false, false))), (((false, false), (false, false)), ((false, false), (false, false)))), ((((false, false), (false, false)), ((false, false), (false, false))), (((false, false), (false, false)), ((false, false), (false, false))))), (((((false, false), (false, false)), ((false, false), (false, false))), (((false, false), (false, false)), ((false, false), (false, false)))), ((((false, false), (false, false)), ((false, false), (false, false))), (((false, false), (false, false)), ((false, false), (false, false)))))), ((((((false, false), (false, false)), ((false, false), (false, false))), (((false, false), (false, false)), ((false, false), (false, false)))), ((((false, false), (false, false)), ((false, false), (false, false))), (((false, false), (false, false)), ((false, false), (false, false))))), (((((false, false), (false, false)), ((false, false), (false, false))), (((false, false), (false, false)), ((false, false), (false, false)))), ((((false, false), (false, false)), ((false, false), (false, false))), (((false, false), (false, false)), ((false, false), (false, false))))))), (((((((false, false), (false, false)), ((false, false), (false, false))), (((false, false), (false, false)), ((false, false), (false, false)))), ((((false, false), (false, false)), ((false, false), (false, false))), (((false, false), (false, false)), ((false, false), (false, false))))), (((((false, false), (false, false)), ((false, false), (false, false))), (((false, false), (false, false)), ((false, false), (false, false)))), ((((false, false), (false, false)), ((false, false), (false, false))), (((false, false), (false, false)), ((false, false), (false, false)))))), ((((((false, false), (false, false)), ((false, false), (false, false))), (((false, false), (false, false)), ((false, false), (false, false)))), ((((false, false), (false, false)), ((false, false), (false, false))), (((false, false), (false, false)), ((false, false), (false, false))))), (((((false, false), (false, false)), ((false, false), (false, false))), (((false, false), (false, false)), ((false, false), (false, false)))), ((((false, false), (false, false)), ((false, false), (false, false))), (((false, false), (false, false)), ((false, false), (false, false))))))))))
noncomputable def memN (κ : Nat) (l : List Nat) : Bool := List.rec false (fun a _ ih => Bool.rec ih true (Nat.beq a κ)) l
noncomputable def memI (v : Int) (l : List Int) : Bool := List.rec false (fun a _ ih => Bool.rec ih true (ieq v a)) l
noncomputable def PR0 (κ : Nat) (v : Int) : Bool := match tget 6 bdT κ with | .inr (.inr _) => Bool.rec (Bool.rec false (tget 10 prG (v.toNat % 627)) (memN κ [35, 32])) true (tget 10 prT (v.toNat % 627)) | _ => Bool.rec (Bool.rec (Bool.rec false (memI v [4]) (Nat.beq κ 12)) (memI v [5, 7, 25]) (Nat.beq κ 13)) true (memN κ [28, 29, 30, 41])
end
