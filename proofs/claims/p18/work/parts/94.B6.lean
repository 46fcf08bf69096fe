/-! instructions as numbers: what they are for the small machine, for the symbolic run -/
abbrev Ins : Type := Nat × Nat × Nat × Nat × Nat × Nat × Nat
abbrev Tin : Type := Ins × List Nat
noncomputable def gB9 (a : Nat) : Nat → Nat → Nat := match a with | 0 => g_sub | 1 => g_imul | 2 => g_iand | 3 => g_ior | 4 => g_ixor | 5 => g_ishl | _ => g_ishr
noncomputable def gU9 (a : Nat) : Nat → Nat := match a with | 0 => g_ineg | 1 => g_i2b | _ => g_i2c
noncomputable def gS9 (a : Nat) : Nat → Nat → Nat := match a with | 0 => g_lshl | _ => g_lshr
noncomputable def dn (Z : Nat) (i : Ins) : Op1 := match i.1 with
  | 0 => op_push (vI i.2.1)
  | 1 => op_push (vJ i.2.1)
  | 2 => op_push (vW i.2.1)
  | 3 => op_push (vD i.2.1)
  | 4 => op_push (vF i.2.1)
  | 5 => op_ld (fP i.2.1) i.2.2.1
  | 6 => op_st (fP i.2.1) i.2.2.1
  | 7 => op_st2 (fP i.2.1) i.2.2.1
  | 8 => op_iinc i.2.1 i.2.2.1
  | 9 => op_add
  | 10 => op_bin (gB9 i.2.1)
  | 11 => op_un (gU9 i.2.1)
  | 12 => op_dup
  | 13 => op_dup2
  | 14 => op_pop
  | 15 => op_irem
  | 16 => op_i2l
  | 17 => op_l2i
  | 18 => op_lbin g_lor
  | 19 => op_lsh (gS9 i.2.1)
  | 20 => op_lcmp
  | 21 => op_getf i.2.1 i.2.2.1
  | 22 => op_putf (fP i.2.1) i.2.2.1 i.2.2.2.1
  | 23 => op_iald i.2.1
  | 24 => op_iast
  | 25 => op_bast
  | 26 => op_aald
  | 27 => op_lald
  | 28 => op_last
  | 29 => op_alen
  | 30 => op_copy
  | 31 => op_call (gN i.2.1) i.2.2.1 i.2.2.2.1 i.2.2.2.2.1 (i.2.2.2.2.2.1 + Z)
  | 32 => op_callX (gN i.2.1) i.2.2.1 i.2.2.2.1 i.2.2.2.2.1 (i.2.2.2.2.2.1 + Z)
  | 33 => op_i2d
  | 34 => op_i2f
  | 35 => op_f2d
  | 36 => op_ddiv
  | 37 => op_fdiv
  | _ => op_fail
noncomputable def dtm (Z : Nat) (i : Tin) : Trm := match i.1.1 with
  | 0 => tm_goto i.1.2.1
  | 1 => tm_icmp i.1.2.1 i.1.2.2.1 i.1.2.2.2.1
  | 2 => tm_if i.1.2.1 i.1.2.2.1 i.1.2.2.2.1
  | 3 => tm_switch i.1.2.1 i.2
  | 4 => tm_ret (fP i.1.2.1) (i.1.2.2.1 + Z)
  | 5 => tm_vret (i.1.2.1 + Z)
  | 6 => tm_throw i.1.2.1 (i.1.2.2.1 + Z)
  | 7 => tm_callH (gN i.1.2.1) i.1.2.2.1 i.1.2.2.2.1 i.1.2.2.2.2.1 (i.1.2.2.2.2.2.1 + Z) i.1.2.2.2.2.2.2 i.2
  | _ => tm_fail
section TYPING
variable (kd : Nat → Nat) (sh : Nat → Sh) (rt : Nat → Nat → Nat) (bd : Nat → Int → Int × Int) (un : Nat → Bool) (Wp PR : Nat → Int → Bool)
noncomputable def x_fail : (SS → SR) → SS → SR := fun _ _ => none
noncomputable def xb9 (a : Nat) : YE → Aff → Aff → YE × Aff := match a with | 0 => fun E x y => yadd E (-1) x y | 1 => ymul | 2 => yand | _ => fun E _ _ => yfull E
noncomputable def xu9 (a : Nat) : YE → Aff → YE × Aff := match a with | 0 => fun E x => yfit E (x.1, (-1) * x.2.1, (-1) * x.2.2) | 1 => ycut (-128) 127 | _ => ycut 0 65535
noncomputable def xi (i : Ins) : XOp := match i.1 with
  | 0 => fun _ k σ => gdS (Nat.ble (i.2.1 + 1) 4294967296) (x_push (sI (0, 0, sg i.2.1)) k σ)
  | 1 => fun _ => x_push (sJ (0, 0, lsg i.2.1))
  | 2 => fun _ => x_push (sW i.2.1)
  | 3 => fun _ => x_push (sT 1)
  | 4 => fun _ => x_push (sT (match i.2.1 with | 0 => 8 | _ => 2))
  | 5 => fun _ => x_ld i.2.1 i.2.2.1
  | 6 => fun _ => x_st i.2.1 i.2.2.1
  | 7 => fun _ => x_st2 i.2.1 i.2.2.1
  | 8 => fun _ => x_iinc i.2.1 (sg i.2.2.1)
  | 9 => fun _ => x_2 (fun E x y => yadd E 1 x y)
  | 10 => fun _ => x_2 (xb9 i.2.1)
  | 11 => fun _ => x_1 (xu9 i.2.1)
  | 12 => fun _ => x_dup
  | 13 => fun _ => x_dup2
  | 14 => fun _ => x_pop
  | 15 => fun _ => x_irem
  | 16 => fun _ => x_i2l
  | 17 => fun _ => x_l2i
  | 18 => fun _ => x_lb 1
  | 19 => fun _ => x_lb 0
  | 20 => fun _ => x_lcmp
  | 21 => fun _ => x_getf kd sh rt bd i.2.1 i.2.2.1
  | 22 => fun _ => x_putf kd sh bd Wp PR i.2.1 i.2.2.1 i.2.2.2.1
  | 23 => fun _ => x_iald kd sh bd un i.2.1
  | 24 => fun _ => x_ast kd sh bd un Wp PR false
  | 25 => fun _ => x_ast kd sh bd un Wp PR true
  | 26 => fun _ => x_aald kd sh rt
  | 27 => fun _ => x_lald kd sh
  | 28 => fun _ => x_last kd sh Wp PR
  | 29 => fun _ => x_alen kd sh
  | 30 => fun _ => x_copy kd sh bd Wp PR
  | 31 => fun xc => x_call kd sh false i.2.1 i.2.2.1 i.2.2.2.1 i.2.2.2.2.1 i.2.2.2.2.2.1 xc
  | 32 => fun xc => x_call kd sh true i.2.1 i.2.2.1 i.2.2.2.1 i.2.2.2.2.1 i.2.2.2.2.2.1 xc
  | 33 => fun _ => x_i2x 4
  | 34 => fun _ => x_i2x 6
  | 35 => fun _ => x_f2d
  | 36 => fun _ => x_div 4 1
  | 37 => fun _ => x_div 6 8
  | _ => fun _ => x_fail
noncomputable def xtm (i : Tin) : XTr := match i.1.1 with
  | 0 => fun _ => x_goto i.1.2.1
  | 1 => fun _ => x_icmp i.1.2.1 i.1.2.2.1 i.1.2.2.2.1
  | 2 => fun _ => x_if i.1.2.1 i.1.2.2.1 i.1.2.2.2.1
  | 3 => fun _ xj σ => gdS (Nat.ble (ylen i.2) 100000) (x_switch i.1.2.1 i.2 xj σ)
  | 4 => fun _ _ => x_ret i.1.2.1 i.1.2.2.1
  | 5 => fun _ _ => x_vret i.1.2.1
  | 6 => fun _ _ => x_throw i.1.2.1 i.1.2.2.1
  | 7 => fun xc => x_callH kd sh i.1.2.1 i.1.2.2.1 i.1.2.2.2.1 i.1.2.2.2.2.1 i.1.2.2.2.2.2.1 i.1.2.2.2.2.2.2 i.2 xc
  | _ => fun _ _ _ => none
variable {kd sh rt bd un Wp PR} {Inv : Mem → Prop} {M0 : Mem} {Ev : Env9} {Zo Z : Nat}
theorem ks_fail {B : List Int} {c : Nat} {P : Res → Prop} {K : KK} {k : SS → SR} : KS kd sh rt bd Wp Inv M0 Ev Zo B c P K (x_fail k) := fun σ c' os h => nomatch (show (none : SR) = some (c', os) from h)
theorem ishl_lt (x y : Nat) : g_ishl x y < 4294967296 := toN_lt _
theorem xi_ok (hu : ∀ κ v, un κ = true → bd κ v = bd κ 0) (hI : Hang kd PR Inv) (hZ : Zo ≤ Z) (i : Ins) : SOP kd sh rt bd Wp Inv M0 Ev Zo (xi kd sh rt bd un Wp PR i) (dn Z i) := by
  obtain ⟨o, a, b, c9, d, e, f⟩ := i
  intro call xc B c P K k hC hK
  match o with
  | 0 =>
    intro σ c' os h
    obtain ⟨h1, h⟩ := gdS_some (show gdS (Nat.ble (a + 1) 4294967296) _ = _ from h)
    exact s_push (call := call) (a := sI (0, 0, sg a)) (v := vI a) (fun G => ⟨a, rfl, Nat.le_of_ble_eq_true h1, yev_c⟩) hK σ c' os h
  | 1 => exact s_push (call := call) (fun G => ⟨a, rfl, yev_c⟩) hK
  | 2 => exact s_push (call := call) (fun G => rfl) hK
  | 3 => exact s_push (call := call) (fun G => ⟨a, rfl⟩) hK
  | 4 =>
    match a with
    | 0 => exact s_push (call := call) (a := sT 8) (v := vF 0) (fun G => ⟨0, rfl, by decide⟩) hK
    | a + 1 => exact s_push (call := call) (a := sT 2) (v := vF (a + 1)) (fun G => ⟨a + 1, rfl⟩) hK
  | 5 => exact s_ld (call := call) hK
  | 6 => exact s_st (call := call) hK
  | 7 => exact s_st2 (call := call) hK
  | 8 => exact s_iinc (call := call) hK
  | 9 => exact s_add (call := call) hK
  | 10 =>
    match a with
    | 0 => exact s_sub (call := call) hK
    | 1 => exact s_mul (call := call) hK
    | 2 => exact s_and (call := call) hK
    | 3 => exact s_any2 (call := call) (g := g_ior) (fun _ _ => toN_lt _) hK
    | 4 => exact s_any2 (call := call) (g := g_ixor) (fun _ _ => toN_lt _) hK
    | 5 => exact s_any2 (call := call) (g := g_ishl) (fun _ _ => toN_lt _) hK
    | a + 6 => exact s_any2 (call := call) (g := g_ishr) (fun _ _ => toN_lt _) hK
  | 11 =>
    match a with
    | 0 => exact s_neg (call := call) hK
    | 1 => exact s_i2b (call := call) hK
    | a + 2 => exact s_i2c (call := call) hK
  | 12 => exact s_dup (call := call) hK
  | 13 => exact s_dup2 (call := call) hK
  | 14 => exact s_pop (call := call) hK
  | 15 => exact s_irem (call := call) hK
  | 16 => exact s_i2l (call := call) hK
  | 17 => exact s_l2i (call := call) hK
  | 18 => exact s_lbin (call := call) hK
  | 19 => exact s_lsh (call := call) hK
  | 20 => exact s_lcmp (call := call) hK
  | 21 => exact s_getf (call := call) hK
  | 22 => exact s_putf (call := call) hI hK
  | 23 => exact s_iald (call := call) hu hK
  | 24 => exact s_ast (call := call) hu hI hK false
  | 25 => exact s_ast (call := call) hu hI hK true
  | 26 => exact s_aald (call := call) hK
  | 27 => exact s_lald (call := call) hK
  | 28 => exact s_last (call := call) hI hK
  | 29 => exact s_alen (call := call) hK
  | 30 => exact s_copy (call := call) hI hK
  | 31 => exact s_call (call := call) (tx := false) (by show Zo + e ≤ e + Z; omega) hC hK
  | 32 => exact s_call (call := call) (tx := true) (by show Zo + e ≤ e + Z; omega) hC hK
  | 33 => exact s_i2d (call := call) hK
  | 34 => exact s_i2f (call := call) hK
  | 35 => exact s_f2d (call := call) hK
  | 36 => exact s_ddiv (call := call) hK
  | 37 => exact s_fdiv (call := call) hK
  | o + 38 => exact ks_fail (k := k)
theorem xtm_ok (hZ : Zo ≤ Z) (i : Tin) : STR kd sh rt bd Wp Inv M0 Ev Zo (xtm kd sh i) (dtm Z i) := by
  obtain ⟨⟨o, a, b, c9, d, e, f⟩, l⟩ := i
  intro call xc B c P j xj hC hj
  match o with
  | 0 => exact s_goto (call := call) hj
  | 1 => exact s_icmp (call := call) hj
  | 2 => exact s_if (call := call) hj
  | 3 =>
    intro σ c' os h
    obtain ⟨h1, h⟩ := gdS_some (show gdS (Nat.ble (ylen l) 100000) _ = _ from h)
    rw [ylen_eq] at h1
    exact s_switch (call := call) (Nat.le_of_ble_eq_true h1) hj σ c' os h
  | 4 => exact s_ret (call := call) (j := j) (by show Zo + b ≤ b + Z; omega)
  | 5 => exact s_vret (call := call) (j := j) (by show Zo + a ≤ a + Z; omega)
  | 6 => exact s_throw (call := call) (j := j) (by show Zo + b ≤ b + Z; omega)
  | 7 => exact s_callH (call := call) (by show Zo + e ≤ e + Z; omega) hC hj
  | o + 8 => exact fun σ c' os h => nomatch (show (none : SR) = some (c', os) from h)
/-- a block, as numbers -/
abbrev DB : Type := List Ins × Tin
noncomputable def dnL (Z : Nat) (l : List Ins) : List Op1 := List.rec [] (fun i _ ih => dn Z i :: ih) l
noncomputable def dnB (Z : Nat) (q : DB) : Blk := (dnL Z q.1, dtm Z q.2)
noncomputable def xiL (kd : Nat → Nat) (sh : Nat → Sh) (rt : Nat → Nat → Nat) (bd : Nat → Int → Int × Int) (un : Nat → Bool) (Wp PR : Nat → Int → Bool) (l : List Ins) : List XOp := List.rec [] (fun i _ ih => xi kd sh rt bd un Wp PR i :: ih) l
noncomputable def xiB (kd : Nat → Nat) (sh : Nat → Sh) (rt : Nat → Nat → Nat) (bd : Nat → Int → Int × Int) (un : Nat → Bool) (Wp PR : Nat → Int → Bool) (q : DB) : XBl := (xiL kd sh rt bd un Wp PR q.1, xtm kd sh q.2)
theorem xiB_ok (hu : ∀ κ v, un κ = true → bd κ v = bd κ 0) (hI : Hang kd PR Inv) (hZ : Zo ≤ Z) (q : DB) : SBL kd sh rt bd Wp Inv M0 Ev Zo (xiB kd sh rt bd un Wp PR q) (dnB Z q) := by
  refine ⟨xtm_ok hZ q.2, ?_⟩
  show Fa2 _ (xiL kd sh rt bd un Wp PR q.1) (dnL Z q.1)
  induction q.1 with
  | nil => trivial
  | cons a l ih => exact ⟨xi_ok hu hI hZ a, ih⟩
end TYPING
