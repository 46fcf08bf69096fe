/-! A small machine over abstract values: what a method does to a memory of numbered cells, to be run by the kernel. -/
abbrev AV : Type := Nat ⊕ Nat ⊕ Nat ⊕ Option (Nat × Nat) ⊕ Nat ⊕ Nat ⊕ (Nat ⊕ Nat)
/-- a known int, by its number mod 2^32 -/
abbrev vI (n : Nat) : AV := .inl n
/-- the cell k -/
abbrev vR (k : Nat) : AV := .inr (.inl k)
/-- a known long -/
abbrev vJ (n : Nat) : AV := .inr (.inr (.inl n))
/-- an int: none: any; (i, o): the script's number i, and o -/
abbrev vX (o : Option (Nat × Nat)) : AV := .inr (.inr (.inr (.inl o)))
/-- the script's number i as a long -/
abbrev vL (i : Nat) : AV := .inr (.inr (.inr (.inr (.inl i))))
/-- 0 null, 1 some reference, 2 the script, 3 nothing known, from 4 on the texts -/
abbrev vW (i : Nat) : AV := .inr (.inr (.inr (.inr (.inr (.inl i)))))
abbrev vF (n : Nat) : AV := .inr (.inr (.inr (.inr (.inr (.inr (.inl n))))))
abbrev vD (n : Nat) : AV := .inr (.inr (.inr (.inr (.inr (.inr (.inr n))))))
abbrev Cel : Type := (Nat × List AV) ⊕ (Nat × Nat × Nat × List (Nat × AV)) ⊕ (Nat × List AV)
def TrT (α : Type) (d : Nat) : Type := Nat.rec α (fun _ ih => ih × ih) d
noncomputable def tget {α : Type} (d : Nat) : TrT α d → Nat → α :=
  Nat.rec (motive := fun d => TrT α d → Nat → α) (fun t _ => t) (fun d ih t k => Bool.rec (ih t.1 k) (ih t.2 (k - 2 ^ d)) (Nat.ble (2 ^ d) k)) d
noncomputable def tset {α : Type} (d : Nat) : TrT α d → Nat → α → TrT α d :=
  Nat.rec (motive := fun d => TrT α d → Nat → α → TrT α d) (fun _ _ x => x) (fun d ih t k x => Bool.rec (ih t.1 k x, t.2) (t.1, ih t.2 (k - 2 ^ d) x) (Nat.ble (2 ^ d) k)) d
noncomputable def trep {α : Type} (x : α) (d : Nat) : TrT α d := Nat.rec (motive := fun d => TrT α d) x (fun _ ih => (ih, ih)) d
noncomputable def nth (l : List AV) : Nat → AV := List.rec (motive := fun _ => Nat → AV) (fun _ => vW 3) (fun x _ ih i => Nat.rec x (fun j _ => ih j) i) l
noncomputable def nst (l : List AV) : Nat → AV → List AV := List.rec (motive := fun _ => Nat → AV → List AV) (fun _ _ => []) (fun x t ih i v => Nat.rec (v :: t) (fun j _ => x :: ih j v) i) l
abbrev Mem : Type := TrT Cel 9
/-- env: of each script number the least and the greatest, counted from the least int on; memory; next free cell; slots used -/
abbrev Env9 : Type := List (Nat × Nat)
abbrev Res : Type := (Nat × Nat) × Env9 × AV × Mem × Nat × Nat
abbrev KK : Type := Env9 → Nat → Nat → List AV → List AV → Mem → Option (List Res)
abbrev Call : Type := Nat → Env9 → Nat → Nat → List AV → Mem → Option (List Res)
abbrev Op1 : Type := Call → KK → KK
noncomputable def fN {α : Type} (n : Nat) (f : Nat → α) : α := Nat.rec (f 0) (fun m _ => f (Nat.succ m)) n
/-- a number, signed order kept -/
abbrev bi (n : Nat) : Nat := (n + 2147483648) % 4294967296
noncomputable def op_push (v : AV) : Op1 := fun _ k E n z L S M => k E n z L (v :: S) M
noncomputable def op_iload (i : Nat) : Op1 := fun _ k E n z L S M => match nth L i with
  | .inl x => k E n z L (.inl x :: S) M
  | .inr (.inr (.inr (.inl o))) => k E n z L (vX o :: S) M
  | _ => none
noncomputable def op_aload (i : Nat) : Op1 := fun _ k E n z L S M => match nth L i with
  | .inr (.inl x) => k E n z L (vR x :: S) M
  | .inr (.inr (.inr (.inr (.inr (.inl x))))) => Bool.rec (k E n z L (vW x :: S) M) none (Nat.beq x 3)
  | _ => none
noncomputable def op_istore (i : Nat) : Op1 := fun _ k E n z L S M => match S with
  | .inl x :: S => k E n z (nst L i (.inl x)) S M
  | .inr (.inr (.inr (.inl o))) :: S => k E n z (nst L i (vX o)) S M
  | _ => none
noncomputable def op_iinc (i c : Nat) : Op1 := fun _ k E n z L S M => match nth L i with
  | .inl x => fN ((x + c) % 4294967296) fun y => k E n z (nst L i (.inl y)) S M
  | _ => none
noncomputable def op_bin (f : Nat → Nat → Nat) : Op1 := fun _ k E n z L S M => match S with
  | .inl y :: .inl x :: S => fN (f x y) fun r => k E n z L (.inl r :: S) M
  | _ => none
noncomputable def op_getf (c i : Nat) : Op1 := fun _ k E n z L S M => match S with
  | .inr (.inl a) :: S => (match tget 9 M a with
    | .inl (q, fs) => Bool.rec none (k E n z L (nth fs i :: S) M) (Nat.beq q c)
    | _ => none)
  | _ => none
noncomputable def op_putf (c i : Nat) : Op1 := fun _ k E n z L S M => match S with
  | v :: .inr (.inl a) :: S => (match tget 9 M a with
    | .inl (q, fs) => Bool.rec none (k E n z L S (tset 9 M a (.inl (q, nst fs i v)))) (Nat.beq q c)
    | _ => none)
  | _ => none
noncomputable def pget (p j : Nat) : Nat := (p >>> (32 * j)) % 4294967296
noncomputable def pset (p j x : Nat) : Nat := p ^^^ ((pget p j ^^^ x) <<< (32 * j))
noncomputable def op_iald : Op1 := fun _ k E n z L S M => match S with
  | .inl j :: .inr (.inl a) :: S => (match tget 9 M a with
    | .inr (.inl (_, N, p, ov)) => Bool.rec none (match ov with | [] => fN (pget p j) fun r => k E n z L (.inl r :: S) M | _ => none) (Nat.ble (j + 1) N)
    | _ => none)
  | _ => none
noncomputable def op_iast : Op1 := fun _ k E n z L S M => match S with
  | .inl x :: .inl j :: .inr (.inl a) :: S => (match tget 9 M a with
    | .inr (.inl (t, N, p, ov)) => Bool.rec none (fN (pset p j x) fun p => k E n z L S (tset 9 M a (.inr (.inl (t, N, p, ov))))) (Nat.ble (j + 1) N)
    | _ => none)
  | _ => none
/-- a block ends: where it goes on -/
abbrev Jmp : Type := Nat → KK
abbrev Trm : Type := Call → Jmp → KK
noncomputable def tm_goto (t : Nat) : Trm := fun _ j => j t
noncomputable def tm_icmp (f : Nat → Nat → Bool) (t e : Nat) : Trm := fun _ j E n z L S M => match S with
  | .inl y :: .inl x :: S => Bool.rec (j e E n z L S M) (j t E n z L S M) (f (bi x) (bi y))
  | _ => none
noncomputable def tm_ret : Trm := fun _ _ E n z _ S M => match S with
  | v :: _ => some [((0, 0), E, v, M, n, z)]
  | _ => none
noncomputable def runB (c : Call) (j : Jmp) (t : Trm) (l : List Op1) : KK := List.rec (motive := fun _ => KK) (t c j) (fun o _ ih => o c ih) l
noncomputable def runF (c : Call) {d : Nat} (code : TrT (List Op1 × Trm) d) (f : Nat) : Jmp := Nat.rec (motive := fun _ => Jmp) (fun _ _ _ _ _ _ _ => none) (fun _ ih b => runB c ih (tget d code b).2 (tget d code b).1) f
-- a test: for (i = 0; i < 5000; i++) { a[i % 600...] = i; f = f + a[i] }
noncomputable def tcode : TrT (List Op1 × Trm) 2 :=
  ((([op_push (vI 0), op_istore 1], tm_goto 1), ([op_iload 1, op_push (vI 2000)], tm_icmp (fun x y => Nat.ble y x) 3 2)),
   (([op_aload 0, op_getf 5 1, op_iload 1, op_push (vI 511), op_bin (fun x y => x &&& y), op_iload 1, op_iast, op_aload 0, op_aload 0, op_getf 5 17, op_aload 0, op_getf 5 1, op_iload 1, op_push (vI 511), op_bin (fun x y => x &&& y), op_iald, op_bin (fun x y => (x + y) % 4294967296), op_putf 5 17, op_iinc 1 1], tm_goto 1), ([op_aload 0, op_getf 5 17], tm_ret)))
noncomputable def tmem : Mem := tset 9 (tset 9 (trep (.inr (.inr (0, []))) 9) 470 (.inl (5, [vI 0, vR 300, vI 0, vI 0, vI 0, vI 0, vI 0, vI 0, vI 0, vI 0, vI 0, vI 0, vI 0, vI 0, vI 0, vI 0, vI 0, vI 0, vI 0]))) 300 (.inr (.inl (0, 627, 0, [])))
noncomputable def okR (x : Nat) (r : Option (List Res)) : Bool := match r with
  | some [(_, _, .inl y, _)] => Nat.beq x y
  | _ => false
theorem test1 : okR 1999000 (runF (fun _ _ _ _ _ _ => none) tcode 100000 0 [] 0 0 [vR 470, vW 3] [] tmem) = true := by decide +kernel
