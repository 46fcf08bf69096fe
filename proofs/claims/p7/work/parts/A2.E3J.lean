/-! the law's blocks, run -/
theorem bi_bi9 {x : Nat} (hx : x < 4294967296) : bi (bi x) = x := by unfold bi; omega
theorem c3_le {u w : Nat} {a c : OR} (h : u ≤ w) : c3 u w a a c = a := by
  show (Bool.rec (Bool.rec c a (Nat.beq u w)) a (Nat.ble (u + 1) w) : OR) = a
  cases h1 : Nat.ble (u + 1) w with
  | true => rfl
  | false =>
    have h2 : ¬ u + 1 ≤ w := fun q => by rw [Nat.ble_eq_true_of_le q] at h1; cases h1
    have h3 : u = w := by omega
    rw [show Nat.beq u w = true from by rw [h3]; exact Nat.beq_refl w]
theorem c3_gt {u w : Nat} {a b c : OR} (h : w < u) : c3 u w a b c = c := by
  show (Bool.rec (Bool.rec c b (Nat.beq u w)) a (Nat.ble (u + 1) w) : OR) = c
  cases h1 : Nat.ble (u + 1) w with
  | true => have := Nat.le_of_ble_eq_true h1; omega
  | false =>
    cases h2 : Nat.beq u w with
    | false => rfl
    | true => have := Nat.eq_of_beq_eq_true h2; omega
theorem okEq {a b : OR} {P : Res → Prop} (h : a = b) (hb : OKo b P) : OKo a P := by rw [h]; exact hb
abbrev LB (i : Nat) (a b c d : AV) : List AV := [vW 2, vR 0, vR 452, vR 465, vI i, a, b, c, d]
section LAWB
variable {call : Call} {j : Jmp} {t : Trm} {l : List Op1} {E : Env9} {n z : Nat} {L S : List AV} {M : Mem}
theorem rb_ld {f : AV → Bool} {i : Nat} (h : f (nth L i) = true) : runB call j t (op_ld f i :: l) E n z L S M = runB call j t l E n z L (nth L i :: S) M := by
  show gd (f (nth L i)) (runB call j t l E n z L (nth L i :: S) M) = _
  rw [h]
  rfl
theorem rb_push {v : AV} : runB call j t (op_push v :: l) E n z L S M = runB call j t l E n z L (v :: S) M := rfl
theorem rb_slen {N : Nat} : runB call j t (op_slen N :: l) E n z L (vW 2 :: S) M = runB call j t l E n z L (vI N :: S) M := rfl
theorem rb_bin {g : Nat → Nat → Nat} {x y : Nat} : runB call j t (op_bin g :: l) E n z L (vI y :: vI x :: S) M = runB call j t l E n z L (vI (g x y) :: S) M := by
  show fN (g x y) (fun r => runB call j t l E n z L (vI r :: S) M) = _
  rw [fN_eq]
theorem rb_add {x y : Nat} : runB call j t (op_add :: l) E n z L (vI y :: vI x :: S) M = runB call j t l E n z L (vI ((x + y) % 4294967296) :: S) M := op_add_n (call := call) (K := runB call j t l)
theorem rF9a {d b f : Nat} {code : TrT Blk d} {ops : List Op1} (h : tget d code b = (ops, t)) : runF call d code (f + 1) b E n z L S M = runB call (runF call d code f) t ops E n z L S M := by rw [rF9 f h]
theorem rb_sld {N i x : Nat} (hd : i + 1 ≤ N) (h1 : (nthE E i).1 = bi x) (h2 : (nthE E i).2 = bi x) (hx : bi (bi x) = x) : runB call j t (op_sld N :: l) E n z L (vI i :: vW 2 :: S) M = runB call j t l E n z L (vI x :: S) M := by
  show gd true (gd (Nat.ble (i + 1) N) (Bool.rec (runB call j t l E n z L (vX (some (i, 0)) :: S) M) (runB call j t l E n z L (vI (bi (nthE E i).1) :: S) M) (Nat.beq (nthE E i).1 (nthE E i).2))) = _
  rw [h1, h2, Nat.beq_refl, hx, Nat.ble_eq_true_of_le hd]
  rfl
theorem rb_arg {N i d x : Nat} {a b c e : AV} (hd : i + d < N) (hN : N ≤ 100000) (hE : nthE E (i + d) = (bi x, bi x)) (hx : x < 4294967296) : runB call j t (op_ld isA 0 :: op_ld isI 4 :: op_push (vI d) :: op_add :: op_sld N :: l) E n z (LB i a b c e) S M = runB call j t l E n z (LB i a b c e) (vI x :: S) M := by
  refine (rb_ld rfl).trans ((rb_ld rfl).trans (rb_push.trans (rb_add.trans ?_)))
  rw [Nat.mod_eq_of_lt (show i + d < 4294967296 by omega)]
  exact rb_sld hd (by rw [hE]) (by rw [hE]) (bi_bi9 hx)
theorem rb_arg0 {N i x : Nat} {a b c e : AV} (hd : i < N) (hE : nthE E i = (bi x, bi x)) (hx : x < 4294967296) : runB call j t (op_ld isA 0 :: op_ld isI 4 :: op_sld N :: l) E n z (LB i a b c e) S M = runB call j t l E n z (LB i a b c e) (vI x :: S) M :=
  (rb_ld rfl).trans ((rb_ld rfl).trans (rb_sld hd (by rw [hE]) (by rw [hE]) (bi_bi9 hx)))
theorem rb_call {g : List AV → Mem → Bool} {y na bud : Nat} {as rest S' L' : List AV} {v : AV} {M' : Mem} {z' : Nat} (hS : spl na [] S = (as, rest)) (hl : Nat.ble na S.length = true) (hc : Nat.ble (catS rest) 8 = true) (hz : z + bud ≤ 600000) (hg : g as M = true) (hr : call y E n as M = some [((0, 0), E, v, S', L', M', 466, z')]) : runB call j t (op_call g y na bud 600000 :: l) E n z L S M = runB call j t l E 466 (z + bud) L (v :: rest) M' := by
  show op_call g y na bud 600000 call (runB call j t l) E n z L S M = _
  unfold op_call
  rw [hS, hl, Nat.ble_eq_true_of_le hz]
  show gd true (gd (Nat.ble (catS rest) 8) (gd true (gd (g as M) (match call y E n as M with
    | some rs => joinR (fun r => match r with
      | ((0, _), E', v, _, _, M', n', _) => fN n' fun n' => runB call j t l E' n' (z + bud) L (v :: rest) M'
      | ((1, _), E', _, _, _, M', n', _) => fN n' fun n' => runB call j t l E' n' (z + bud) L rest M'
      | _ => none) rs
    | none => none)))) = _
  rw [hc, hg, hr]
  refine gd4 ?_
  rw [joinR_1]
  show fN 466 (fun n' => runB call j t l E n' (z + bud) L (v :: rest) M') = _
  rw [fN_eq]
theorem rb_st5 {i x : Nat} {a b c d : AV} : runB call j t (op_st isI 5 :: l) E n z (LB i a b c d) (vI x :: S) M = runB call j t l E n z (LB i (vI x) b c d) S M := rfl
theorem rb_st6 {i x y : Nat} {b c d : AV} : runB call j t (op_st isI 6 :: l) E n z (LB i (vI y) b c d) (vI x :: S) M = runB call j t l E n z (LB i (vI y) (vI x) c d) S M := rfl
theorem rb_pop {x : Nat} : runB call j t (op_pop :: l) E n z L (vI x :: S) M = runB call j t l E n z L S M := rfl
theorem rb_sd5 {i x : Nat} {a b c d : AV} : runB call j t (op_st2 isD 5 :: l) E n z (LB i a b c d) (vD x :: S) M = runB call j t l E n z (LB i (vD x) (vW 3) c d) S M := rfl
theorem rb_sd7 {i x : Nat} {a c d : AV} : runB call j t (op_st2 isD 7 :: l) E n z (LB i a (vW 3) c d) (vD x :: S) M = runB call j t l E n z (LB i a (vW 3) (vD x) (vW 3)) S M := rfl
theorem rb_goto9 {b : Nat} : runB call j (tm_goto b) [] E n z L S M = j b E n z L S M := rfl
theorem rb_icmp {x y tl te tg : Nat} : runB call j (tm_icmp tl te tg) [] E n z L (vI y :: vI x :: S) M = c3 (bi x) (bi y) (j tl E n z L S M) (j te E n z L S M) (j tg E n z L S M) := by
  rw [rBn]
  exact icn tl te tg x y z j L S M
theorem rb_if {x tl te tg : Nat} : runB call j (tm_if tl te tg) [] E n z L (vI x :: S) M = c3 (bi x) (bi 0) (j tl E n z L S M) (j te E n z L S M) (j tg E n z L S M) := by
  rw [rBn]
  exact ifn tl te tg x z j L S M
theorem addK_9 {x y : Nat} {f : AV → OR} : addK (vI x) (vI y) f = f (vI ((x + y) % 4294967296)) := by
  show fN ((x + y) % 4294967296) (fun r => f (.inl r)) = _
  rw [fN_eq]
theorem rb_goto {d f b : Nat} {code : TrT Blk d} : runB call (runF call d code f) (tm_goto b) [] E n z L S M = runF call d code f b E n z L S M := rfl
theorem rb_f2d {x : Nat} (h : (UInt32.ofNat x &&& 0x7fffffff).toNat ≤ 2139095040) : runB call j t (op_f2d :: l) E n z L (vF x :: S) M = runB call j t l E n z L (vD (FP.f2d (UInt32.ofNat x)).toNat :: S) M := by
  show gd (Nat.ble ((FP.f2d (UInt32.ofNat x) &&& 0x7fffffffffffffff).toNat) 9218868437227405312) (runB call j t l E n z L (vD (FP.f2d (UInt32.ofNat x)).toNat :: S) M) = _
  rw [f2d_nn h]
  rfl
end LAWB
theorem sh452 : ∃ q, sh0 (kd0 452) = .inl q ∧ q.1 = 11 := ⟨_, rfl, rfl⟩
theorem sh_0 : ∃ q, sh0 (kd0 0) = .inl q ∧ q.1 = 10 := ⟨_, rfl, rfl⟩
theorem gv_of {M : Mem} {k ci : Nat} {as : List AV} (hT : TI kd0 sh0 rt0 bd0 M) (hk : k < 466) (h : ∃ q, sh0 (kd0 k) = .inl q ∧ q.1 = ci) : gV ci (vR k :: as) M = true := by
  obtain ⟨q, h1, h2⟩ := h
  obtain ⟨fs, e, -, -⟩ := co_obj hT hk h1
  show (match tget 9 M k with | .inl q => Nat.beq q.1 ci | _ => false : Bool) = true
  rw [e, ← h2]
  exact Nat.beq_refl _
theorem ans0 {v : AV} (h : ∃ q : Nat × Int × Int, q.1 = 0 ∧ rOK q v) : ∃ x, v = vI x := by
  obtain ⟨⟨a, b, c⟩, h1, h2⟩ := h
  cases h1
  obtain ⟨x, h3, -⟩ := h2
  exact ⟨x, h3⟩
theorem ans3 {v : AV} (h : ∃ q : Nat × Int × Int, q.1 = 3 ∧ rOK q v) : ∃ x, v = vD x := by
  obtain ⟨⟨a, b, c⟩, h1, h2⟩ := h
  cases h1
  exact h2
theorem ans10 {v : AV} (h : ∃ q : Nat × Int × Int, q.1 = 10 ∧ rOK q v) : ∃ x, v = vF x ∧ (UInt32.ofNat x &&& 0x7fffffff).toNat ≤ 2139095040 := by
  obtain ⟨⟨a, b, c⟩, h1, h2⟩ := h
  cases h1
  exact h2
/-- a good end of a round -/
def GE (N : Nat) (E : Env9) (i z : Nat) (r : Res) : Prop := ∃ (z' : Nat) (L' : List AV) (M' : Mem), z' ≤ z + 21 ∧ JI M' ∧ RZ M' ∧ (∃ a b c d, L' = LB (i + 6) a b c d) ∧ ((i + 12 ≤ N ∧ ∃ v, r = ((3, 40), E, vW 3, [vI v], L', M', 466, z')) ∨ r = ((3, 1906), E, vW 3, [vI 1], L', M', 466, z'))
/-- of the script's numbers all is known -/
def PE (N : Nat) (E : Env9) : Prop := ∀ j, j < N → ∃ x, x < 4294967296 ∧ nthE E j = (bi x, bi x)
theorem lb_ex (N : Nat) : tget 7 (ct_L_law N) 67 = ([op_iinc 4 6], tm_goto 1) := rfl
theorem lb_1 (N : Nat) : tget 7 (ct_L_law N) 1 = ([op_ld isI 4, op_ld isA 0, op_slen N, op_push (vI 6), op_bin g_sub], tm_icmp 2 2 68) := rfl
theorem lb_2 (N : Nat) : tget 7 (ct_L_law N) 2 = ([op_ld isA 0, op_ld isI 4, op_sld N, op_push (vI 63), op_bin g_iand], tm_goto 3) := rfl
theorem lb_3 (N : Nat) : tget 7 (ct_L_law N) 3 = ([], tm_cut 40) := rfl
theorem lb_72 (N : Nat) : tget 7 (ct_L_law N) 68 = ([op_push (vI 1)], tm_cut 1906) := rfl
section TAIL
variable {call : Call} {N : Nat} {E : Env9} {i z : Nat} {a b c d : AV} {M : Mem}
theorem at_1 {f : Nat} : runF call 7 (ct_L_law N) (f + 1) 1 E 466 z (LB i a b c d) [] M = c3 (bi i) (bi (g_sub N 6)) (runF call 7 (ct_L_law N) f 2 E 466 z (LB i a b c d) [] M) (runF call 7 (ct_L_law N) f 2 E 466 z (LB i a b c d) [] M) (runF call 7 (ct_L_law N) f 68 E 466 z (LB i a b c d) [] M) := by
  refine (rF9a (lb_1 N)).trans ((rb_ld rfl).trans ((rb_ld rfl).trans (rb_slen.trans (rb_push.trans (rb_bin.trans ?_)))))
  exact rb_icmp
theorem at_71 {f : Nat} (hi : i + 6 < 4294967296) : runF call 7 (ct_L_law N) (f + 1) 67 E 466 z (LB i a b c d) [] M = runF call 7 (ct_L_law N) f 1 E 466 z (LB (i + 6) a b c d) [] M := by
  refine (rF9a (lb_ex N)).trans ?_
  show addK (vI i) (vI 6) (fun r => runF call 7 (ct_L_law N) f 1 E 466 z [vW 2, vR 0, vR 452, vR 465, r, a, b, c, d] [] M) = _
  rw [addK_9, Nat.mod_eq_of_lt hi]
theorem at_2 {f x : Nat} (hd : i < N) (hE : nthE E i = (bi x, bi x)) (hx : x < 4294967296) : runF call 7 (ct_L_law N) (f + 2) 2 E 466 z (LB i a b c d) [] M = some [((3, 40), E, vW 3, [vI (g_iand x 63)], LB i a b c d, M, 466, z)] := by
  refine (rF9a (lb_2 N)).trans ((rb_arg0 hd hE hx).trans (rb_push.trans (rb_bin.trans (rb_goto9.trans ?_))))
  rw [rF9 f (lb_3 N)]
  rfl
theorem at_72 {f : Nat} : runF call 7 (ct_L_law N) (f + 1) 68 E 466 z (LB i a b c d) [] M = some [((3, 1906), E, vW 3, [vI 1], LB i a b c d, M, 466, z)] := by
  rw [rF9 f (lb_72 N)]
  rfl
theorem bi_i {i : Nat} (h : i < 2147483648) : bi i = i + 2147483648 := by unfold bi; omega
theorem bi_s {N : Nat} (h : N ≤ 100000) : bi (g_sub N 6) = N + 2147483642 := by unfold bi g_sub; omega
/-- from the loop's head on -/
theorem head_ok {f : Nat} (hN : N ≤ 3072) (hi : i ≤ 3072) (hE : PE N E) : (i + 6 ≤ N ∧ ∃ v, runF call 7 (ct_L_law N) (f + 3) 1 E 466 z (LB i a b c d) [] M = some [((3, 40), E, vW 3, [vI v], LB i a b c d, M, 466, z)]) ∨ runF call 7 (ct_L_law N) (f + 3) 1 E 466 z (LB i a b c d) [] M = some [((3, 1906), E, vW 3, [vI 1], LB i a b c d, M, 466, z)] := by
  by_cases h : i + 6 ≤ N
  · obtain ⟨x, hx, hxE⟩ := hE i (by omega)
    refine Or.inl ⟨h, g_iand x 63, ?_⟩
    rw [at_1, c3_le (by rw [bi_s (N := N) (by omega), bi_i (i := i) (by omega)]; omega)]
    exact at_2 (by omega) hxE hx
  · refine Or.inr ?_
    rw [at_1, c3_gt (by rw [bi_s (N := N) (by omega), bi_i (i := i) (by omega)]; omega)]
    exact at_72
theorem tail_ok {f z0 : Nat} (hN : N ≤ 3072) (hi : i + 6 ≤ N) (hE : PE N E) (hz : z ≤ z0 + 21) (hJ : JI M) (hl : RZ M) : OKo (runF call 7 (ct_L_law N) (f + 4) 67 E 466 z (LB i a b c d) [] M) (GE N E i z0) := by
  rw [at_71 (by omega)]
  rcases head_ok (call := call) (f := f) (z := z) (a := a) (b := b) (c := c) (d := d) (M := M) hN (i := i + 6) (by omega) hE with ⟨h1, v, e⟩ | e
  · exact ⟨_, e, z, _, M, hz, hJ, hl, ⟨a, b, c, d, rfl⟩, Or.inl ⟨h1, v, rfl⟩⟩
  · exact ⟨_, e, z, _, M, hz, hJ, hl, ⟨a, b, c, d, rfl⟩, Or.inr rfl⟩
end TAIL
/-- a case of the switch -/
def CaseOK (call : Call) (N : Nat) (E : Env9) (bk : Nat) : Prop := ∀ (i z : Nat) (a b c d : AV) (M : Mem), i + 6 ≤ N → z + 21 ≤ 600000 → JI M → RZ M → OKo (runF call 7 (ct_L_law N) 10 bk E 466 z (LB i a b c d) [] M) (GE N E i z)
section CASES
variable {call : Call} {N : Nat} {E : Env9} {bk h w bud : Nat}
theorem case_D (hN : N ≤ 3072) (hE : PE N E) : CaseOK call N E 67 := fun i z a b c d M hi _ hJ hl => tail_ok (f := 6) hN hi hE (by omega) hJ hl
theorem case_B0 (hN : N ≤ 3072) (hE : PE N E) (hb : tget 7 (ct_L_law N) bk = ([op_ld isA 1, op_ld isA 3, op_call gS h 2 bud 600000, op_st isI 5, op_ld isA 2, op_call (gV 11) w 1 0 600000, op_st isI 6], tm_goto 67)) (hbud : bud ≤ 21) {ra : Bool} (h1 : CalK call E h 0 ra false [vR 0, vR 465]) (h2 : CalK call E w 0 false ra [vR 452]) : CaseOK call N E bk := by
  intro i z a b c d M hi hz hJ hl
  obtain ⟨v1, S1, L1, M1, z1, e1, an1, J1, k1⟩ := h1 M hJ
  obtain ⟨v2, S2, L2, M2, z2, e2, an2, J2, k2⟩ := h2 M1 J1
  obtain ⟨x1, rfl⟩ := ans0 an1
  obtain ⟨x2, rfl⟩ := ans0 an2
  refine okEq ((rF9a hb).trans ((rb_ld rfl).trans ((rb_ld rfl).trans ((rb_call (as := [vR 0, vR 465]) (rest := []) rfl rfl rfl (by omega) rfl e1).trans (rb_st5.trans ((rb_ld rfl).trans ((rb_call (as := [vR 452]) (rest := []) rfl rfl rfl (by omega) (gv_of J1.1 (by decide) sh452) e2).trans (rb_st6.trans rb_goto)))))))) ?_
  exact tail_ok (f := 5) hN hi hE (by omega) J2 (rk_two hl k1 k2)
theorem case_B1 (hN : N ≤ 3072) (hE : PE N E) (hb : tget 7 (ct_L_law N) bk = ([op_ld isA 1, op_ld isA 0, op_ld isI 4, op_push (vI 1), op_add, op_sld N, op_ld isA 3, op_call gS h 3 bud 600000, op_st isI 5, op_ld isA 2, op_ld isA 0, op_ld isI 4, op_push (vI 1), op_add, op_sld N, op_call (gV 11) w 2 0 600000, op_st isI 6], tm_goto 67)) (hbud : bud ≤ 21) {ra : Bool} (h1 : ∀ x, x < 4294967296 → CalK call E h 0 ra false [vR 0, vI x, vR 465]) (h2 : ∀ x, x < 4294967296 → CalK call E w 0 false ra [vR 452, vI x]) : CaseOK call N E bk := by
  intro i z a b c d M hi hz hJ hl
  obtain ⟨x, hx, hxE⟩ := hE (i + 1) (by omega)
  obtain ⟨v1, S1, L1, M1, z1, e1, an1, J1, k1⟩ := h1 x hx M hJ
  obtain ⟨v2, S2, L2, M2, z2, e2, an2, J2, k2⟩ := h2 x hx M1 J1
  obtain ⟨x1, rfl⟩ := ans0 an1
  obtain ⟨x2, rfl⟩ := ans0 an2
  refine okEq ((rF9a hb).trans ((rb_ld rfl).trans ((rb_arg (by omega) (by omega) hxE hx).trans ((rb_ld rfl).trans ((rb_call (as := [vR 0, vI x, vR 465]) (rest := []) rfl rfl rfl (by omega) rfl e1).trans (rb_st5.trans ((rb_ld rfl).trans ((rb_arg (by omega) (by omega) hxE hx).trans ((rb_call (as := [vR 452, vI x]) (rest := []) rfl rfl rfl (by omega) (gv_of J1.1 (by decide) sh452) e2).trans (rb_st6.trans rb_goto)))))))))) ?_
  exact tail_ok (f := 5) hN hi hE (by omega) J2 (rk_two hl k1 k2)
theorem case_B2 (hN : N ≤ 3072) (hE : PE N E) (hb : tget 7 (ct_L_law N) bk = ([op_ld isA 1, op_ld isA 0, op_ld isI 4, op_push (vI 1), op_add, op_sld N, op_ld isA 0, op_ld isI 4, op_push (vI 2), op_add, op_sld N, op_ld isA 3, op_call gS h 4 bud 600000, op_st isI 5, op_ld isA 2, op_ld isA 0, op_ld isI 4, op_push (vI 1), op_add, op_sld N, op_ld isA 0, op_ld isI 4, op_push (vI 2), op_add, op_sld N, op_call (gV 11) w 3 0 600000, op_st isI 6], tm_goto 67)) (hbud : bud ≤ 21) {ra : Bool} (h1 : ∀ x x', x < 4294967296 → x' < 4294967296 → CalK call E h 0 ra false [vR 0, vI x, vI x', vR 465]) (h2 : ∀ x x', x < 4294967296 → x' < 4294967296 → CalK call E w 0 false ra [vR 452, vI x, vI x']) : CaseOK call N E bk := by
  intro i z a b c d M hi hz hJ hl
  obtain ⟨x, hx, hxE⟩ := hE (i + 1) (by omega)
  obtain ⟨x', hx', hxE'⟩ := hE (i + 2) (by omega)
  obtain ⟨v1, S1, L1, M1, z1, e1, an1, J1, k1⟩ := h1 x x' hx hx' M hJ
  obtain ⟨v2, S2, L2, M2, z2, e2, an2, J2, k2⟩ := h2 x x' hx hx' M1 J1
  obtain ⟨x1, rfl⟩ := ans0 an1
  obtain ⟨x2, rfl⟩ := ans0 an2
  refine okEq ((rF9a hb).trans ((rb_ld rfl).trans ((rb_arg (by omega) (by omega) hxE hx).trans ((rb_arg (by omega) (by omega) hxE' hx').trans ((rb_ld rfl).trans ((rb_call (as := [vR 0, vI x, vI x', vR 465]) (rest := []) rfl rfl rfl (by omega) rfl e1).trans (rb_st5.trans ((rb_ld rfl).trans ((rb_arg (by omega) (by omega) hxE hx).trans ((rb_arg (by omega) (by omega) hxE' hx').trans ((rb_call (as := [vR 452, vI x, vI x']) (rest := []) rfl rfl rfl (by omega) (gv_of J1.1 (by decide) sh452) e2).trans (rb_st6.trans rb_goto)))))))))))) ?_
  exact tail_ok (f := 5) hN hi hE (by omega) J2 (rk_two hl k1 k2)
theorem case_C0 (hN : N ≤ 3072) (hE : PE N E) (hb : tget 7 (ct_L_law N) bk = ([op_ld isA 1, op_call (gV 10) h 1 0 600000, op_pop, op_ld isA 2, op_call (gV 11) w 1 0 600000, op_pop], tm_goto 67)) (h1 : CalK call E h 0 false false [vR 0]) (h2 : CalK call E w 0 false false [vR 452]) : CaseOK call N E bk := by
  intro i z a b c d M hi hz hJ hl
  obtain ⟨v1, S1, L1, M1, z1, e1, an1, J1, k1⟩ := h1 M hJ
  obtain ⟨v2, S2, L2, M2, z2, e2, an2, J2, k2⟩ := h2 M1 J1
  obtain ⟨x1, rfl⟩ := ans0 an1
  obtain ⟨x2, rfl⟩ := ans0 an2
  refine okEq ((rF9a hb).trans ((rb_ld rfl).trans ((rb_call (as := [vR 0]) (rest := []) rfl rfl rfl (by omega) (gv_of hJ.1 (by decide) sh_0) e1).trans (rb_pop.trans ((rb_ld rfl).trans ((rb_call (as := [vR 452]) (rest := []) rfl rfl rfl (by omega) (gv_of J1.1 (by decide) sh452) e2).trans (rb_pop.trans rb_goto))))))) ?_
  exact tail_ok (f := 5) hN hi hE (by omega) J2 (rk_two hl k1 k2)
theorem case_C1 (hN : N ≤ 3072) (hE : PE N E) (hb : tget 7 (ct_L_law N) bk = ([op_ld isA 1, op_ld isA 0, op_ld isI 4, op_push (vI 1), op_add, op_sld N, op_call (gV 10) h 2 0 600000, op_pop, op_ld isA 2, op_ld isA 0, op_ld isI 4, op_push (vI 1), op_add, op_sld N, op_call (gV 11) w 2 0 600000, op_pop], tm_goto 67)) (h1 : ∀ x, x < 4294967296 → CalK call E h 0 false false [vR 0, vI x]) (h2 : ∀ x, x < 4294967296 → CalK call E w 0 false false [vR 452, vI x]) : CaseOK call N E bk := by
  intro i z a b c d M hi hz hJ hl
  obtain ⟨x, hx, hxE⟩ := hE (i + 1) (by omega)
  obtain ⟨v1, S1, L1, M1, z1, e1, an1, J1, k1⟩ := h1 x hx M hJ
  obtain ⟨v2, S2, L2, M2, z2, e2, an2, J2, k2⟩ := h2 x hx M1 J1
  obtain ⟨x1, rfl⟩ := ans0 an1
  obtain ⟨x2, rfl⟩ := ans0 an2
  refine okEq ((rF9a hb).trans ((rb_ld rfl).trans ((rb_arg (by omega) (by omega) hxE hx).trans ((rb_call (as := [vR 0, vI x]) (rest := []) rfl rfl rfl (by omega) (gv_of hJ.1 (by decide) sh_0) e1).trans (rb_pop.trans ((rb_ld rfl).trans ((rb_arg (by omega) (by omega) hxE hx).trans ((rb_call (as := [vR 452, vI x]) (rest := []) rfl rfl rfl (by omega) (gv_of J1.1 (by decide) sh452) e2).trans (rb_pop.trans rb_goto))))))))) ?_
  exact tail_ok (f := 5) hN hi hE (by omega) J2 (rk_two hl k1 k2)
theorem case_D1 (hN : N ≤ 3072) (hE : PE N E) (hb : tget 7 (ct_L_law N) bk = ([op_ld isA 1, op_call (gV 10) h 1 0 600000, op_st2 isD 5, op_ld isA 2, op_call (gV 11) w 1 0 600000, op_st2 isD 7], tm_goto 67)) (h1 : CalK call E h 3 false false [vR 0]) (h2 : CalK call E w 3 false false [vR 452]) : CaseOK call N E bk := by
  intro i z a b c d M hi hz hJ hl
  obtain ⟨v1, S1, L1, M1, z1, e1, an1, J1, k1⟩ := h1 M hJ
  obtain ⟨v2, S2, L2, M2, z2, e2, an2, J2, k2⟩ := h2 M1 J1
  obtain ⟨x1, rfl⟩ := ans3 an1
  obtain ⟨x2, rfl⟩ := ans3 an2
  refine okEq ((rF9a hb).trans ((rb_ld rfl).trans ((rb_call (as := [vR 0]) (rest := []) rfl rfl rfl (by omega) (gv_of hJ.1 (by decide) sh_0) e1).trans (rb_sd5.trans ((rb_ld rfl).trans ((rb_call (as := [vR 452]) (rest := []) rfl rfl rfl (by omega) (gv_of J1.1 (by decide) sh452) e2).trans (rb_sd7.trans rb_goto))))))) ?_
  exact tail_ok (f := 5) hN hi hE (by omega) J2 (rk_two hl k1 k2)
theorem case_D2 (hN : N ≤ 3072) (hE : PE N E) (hb : tget 7 (ct_L_law N) bk = ([op_ld isA 1, op_call (gV 10) h 1 0 600000, op_f2d, op_st2 isD 5, op_ld isA 2, op_call (gV 11) w 1 0 600000, op_f2d, op_st2 isD 7], tm_goto 67)) (h1 : CalK call E h 10 false false [vR 0]) (h2 : CalK call E w 10 false false [vR 452]) : CaseOK call N E bk := by
  intro i z a b c d M hi hz hJ hl
  obtain ⟨v1, S1, L1, M1, z1, e1, an1, J1, k1⟩ := h1 M hJ
  obtain ⟨v2, S2, L2, M2, z2, e2, an2, J2, k2⟩ := h2 M1 J1
  obtain ⟨x1, rfl, nn1⟩ := ans10 an1
  obtain ⟨x2, rfl, nn2⟩ := ans10 an2
  refine okEq ((rF9a hb).trans ((rb_ld rfl).trans ((rb_call (as := [vR 0]) (rest := []) rfl rfl rfl (by omega) (gv_of hJ.1 (by decide) sh_0) e1).trans ((rb_f2d nn1).trans (rb_sd5.trans ((rb_ld rfl).trans ((rb_call (as := [vR 452]) (rest := []) rfl rfl rfl (by omega) (gv_of J1.1 (by decide) sh452) e2).trans ((rb_f2d nn2).trans (rb_sd7.trans rb_goto))))))))) ?_
  exact tail_ok (f := 5) hN hi hE (by omega) J2 (rk_two hl k1 k2)
end CASES
