/-! single steps of the machine -/
theorem gdt {α : Type} (x : Option α) : gd true x = x := rfl
section ST9
variable {call : Call} {E : Env9} {n : Nat}
theorem rF9 {d b : Nat} {code : TrT Blk d} {ops : List Op1} {t : Trm} (f : Nat) (h : tget d code b = (ops, t)) : runF call d code (f + 1) b = runB call (runF call d code f) t ops := by
  have e : runF call d code (f + 1) b = runB call (runF call d code f) (tget d code b).2 (tget d code b).1 := rfl
  rw [e, h]
theorem rBc (j : Jmp) (t : Trm) (o : Op1) (l : List Op1) : runB call j t (o :: l) = o call (runB call j t l) := rfl
theorem rBn (j : Jmp) (t : Trm) : runB call j t [] = t call j := rfl
theorem ldn (f : AV → Bool) (i z : Nat) (K : KK) (L S : List AV) (M : Mem) : op_ld f i call K E n z L S M = gd (f (nth L i)) (K E n z L (nth L i :: S) M) := rfl
theorem stn (f : AV → Bool) (i z : Nat) (K : KK) (v : AV) (L S : List AV) (M : Mem) : op_st f i call K E n z L (v :: S) M = gd (f v) (gd (lk2 L i) (K E n z (nst L i v) S M)) := rfl
theorem ifn (tl te tg x z : Nat) (J : Jmp) (L S : List AV) (M : Mem) : tm_if tl te tg call J E n z L (vI x :: S) M = c3 (bi x) (bi 0) (J tl E n z L S M) (J te E n z L S M) (J tg E n z L S M) := rfl
theorem binn (g : Nat → Nat → Nat) (x y z : Nat) (K : KK) (L S : List AV) (M : Mem) : op_bin g call K E n z L (vI y :: vI x :: S) M = K E n z L (vI (g x y) :: S) M := by
  have e : op_bin g call K E n z L (vI y :: vI x :: S) M = fN (g x y) fun r => K E n z L (vI r :: S) M := rfl
  rw [e, fN_eq]
theorem addn (x y z : Nat) (K : KK) (L S : List AV) (M : Mem) : op_add call K E n z L (vI y :: vI x :: S) M = K E n z L (vI ((x + y) % 4294967296) :: S) M := by
  have e : op_add call K E n z L (vI y :: vI x :: S) M = fN ((x + y) % 4294967296) fun r => K E n z L (vI r :: S) M := rfl
  rw [e, fN_eq]
theorem retn (f : AV → Bool) (B : Nat) (v : AV) (J : Jmp) (L : List AV) (M : Mem) : tm_ret f B call J E n 0 L [v] M = gd (f v) (gd (Nat.ble 0 B) (some [((0, 0), E, v, [], [], M, n, 0)])) := rfl
theorem pun (v : AV) (z : Nat) (K : KK) (L S : List AV) (M : Mem) : op_push v call K E n z L S M = K E n z L (v :: S) M := rfl
theorem icn (tl te tg x y z : Nat) (J : Jmp) (L S : List AV) (M : Mem) : tm_icmp tl te tg call J E n z L (vI y :: vI x :: S) M = c3 (bi x) (bi y) (J tl E n z L S M) (J te E n z L S M) (J tg E n z L S M) := rfl
theorem gotn (t z : Nat) (J : Jmp) (L S : List AV) (M : Mem) : tm_goto t call J E n z L S M = J t E n z L S M := rfl
theorem incn (i c x z : Nat) (K : KK) (L S : List AV) (M : Mem) (h : nth L i = vI x) (h2 : lk2 L i = true) : op_iinc i c call K E n z L S M = K E n z (nst L i (vI ((x + c) % 4294967296))) S M := by
  have e : op_iinc i c call K E n z L S M = gd (isI (nth L i)) (gd (lk2 L i) (addK (nth L i) (vI c) fun r => K E n z (nst L i r) S M)) := rfl
  rw [e, h, h2]
  have e2 : gd (isI (vI x)) (gd true (addK (vI x) (vI c) fun r => K E n z (nst L i r) S M)) = fN ((x + c) % 4294967296) fun r => K E n z (nst L i (vI r)) S M := rfl
  rw [e2, fN_eq]
end ST9
theorem isAv (k : Nat) : isA (vR k) = true := rfl
theorem isIv (x : Nat) : isI (vI x) = true := rfl
