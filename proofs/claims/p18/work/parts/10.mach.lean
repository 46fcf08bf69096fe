/-! A small machine over abstract values: what a method does to a memory of numbered cells, to be run by the kernel. -/
abbrev AV : Type := Nat ⊕ Nat ⊕ Nat ⊕ Option (Nat × Nat) ⊕ Nat ⊕ Nat ⊕ (Nat ⊕ Nat)
/-- a known int, by its number mod 2^32 -/
abbrev vI (n : Nat) : AV := .inl n
/-- the cell k -/
abbrev vR (k : Nat) : AV := .inr (.inl k)
/-- a known long -/
abbrev vJ (n : Nat) : AV := .inr (.inr (.inl n))
/-- an int: none: any; (i, o): the script's number i, and o -/
abbrev vX (o : Option (Nat × Nat)) : AV := .inr (.inr (.inr (.inl o)))
/-- the script's number i % 16, and i / 16, as a long -/
abbrev vL (i : Nat) : AV := .inr (.inr (.inr (.inr (.inl i))))
/-- 0 null, 1 some reference, 2 the script, 3 nothing known, from 4 on the texts, from 1004 on their bytes, 5000 null or some reference -/
abbrev vW (i : Nat) : AV := .inr (.inr (.inr (.inr (.inr (.inl i)))))
abbrev vF (n : Nat) : AV := .inr (.inr (.inr (.inr (.inr (.inr (.inl n))))))
abbrev vD (n : Nat) : AV := .inr (.inr (.inr (.inr (.inr (.inr (.inr n))))))
/-- a cell: an object (class, fields); a row of ints, bytes, booleans (kind, length, known numbers packed, others by place); a row of references; a row of longs -/
abbrev Cel : Type := (Nat × List AV) ⊕ (Nat × Nat × Nat × List (Nat × AV)) ⊕ (Nat × List AV) ⊕ List AV
abbrev cO (c : Nat) (fs : List AV) : Cel := .inl (c, fs)
abbrev cI (t N p : Nat) (ov : List (Nat × AV)) : Cel := .inr (.inl (t, N, p, ov))
abbrev cQ (c : Nat) (xs : List AV) : Cel := .inr (.inr (.inl (c, xs)))
abbrev cL (xs : List AV) : Cel := .inr (.inr (.inr xs))
def TrT (α : Type) (d : Nat) : Type := Nat.rec α (fun _ ih => ih × ih) d
noncomputable def tget {α : Type} (d : Nat) : TrT α d → Nat → α :=
  Nat.rec (motive := fun d => TrT α d → Nat → α) (fun t _ => t) (fun d ih t k => Bool.rec (ih t.1 k) (ih t.2 (k - 2 ^ d)) (Nat.ble (2 ^ d) k)) d
noncomputable def tset {α : Type} (d : Nat) : TrT α d → Nat → α → TrT α d :=
  Nat.rec (motive := fun d => TrT α d → Nat → α → TrT α d) (fun _ _ x => x) (fun d ih t k x => Bool.rec (ih t.1 k x, t.2) (t.1, ih t.2 (k - 2 ^ d) x) (Nat.ble (2 ^ d) k)) d
noncomputable def trep {α : Type} (x : α) (d : Nat) : TrT α d := Nat.rec (motive := fun d => TrT α d) x (fun _ ih => (ih, ih)) d
theorem tget_s {α : Type} {d : Nat} (a b : TrT α d) (j : Nat) : tget (d + 1) (show TrT α (d + 1) from (a, b)) j = if 2 ^ d ≤ j then tget d b (j - 2 ^ d) else tget d a j := by
  show (Bool.rec (tget d a j) (tget d b (j - 2 ^ d)) (Nat.ble (2 ^ d) j) : α) = _
  cases h : Nat.ble (2 ^ d) j with
  | false => rw [if_neg (fun q => by rw [Nat.ble_eq_true_of_le q] at h; cases h)]
  | true => rw [if_pos (Nat.le_of_ble_eq_true h)]
theorem tset_s {α : Type} {d : Nat} (a b : TrT α d) (k : Nat) (x : α) : tset (d + 1) (show TrT α (d + 1) from (a, b)) k x = if 2 ^ d ≤ k then (show TrT α (d + 1) from (a, tset d b (k - 2 ^ d) x)) else (show TrT α (d + 1) from (tset d a k x, b)) := by
  show (Bool.rec (show TrT α (d + 1) from (tset d a k x, b)) (show TrT α (d + 1) from (a, tset d b (k - 2 ^ d) x)) (Nat.ble (2 ^ d) k) : TrT α (d + 1)) = _
  cases h : Nat.ble (2 ^ d) k with
  | false => rw [if_neg (fun q => by rw [Nat.ble_eq_true_of_le q] at h; cases h)]
  | true => rw [if_pos (Nat.le_of_ble_eq_true h)]
theorem tget_tset {α : Type} : ∀ (d : Nat) (t : TrT α d) (k j : Nat) (x : α), k < 2 ^ d → j < 2 ^ d → tget d (tset d t k x) j = if j = k then x else tget d t j := by
  intro d
  induction d with
  | zero =>
    intro t k j x hk hj
    have h1 : k = 0 := by simpa using hk
    have h2 : j = 0 := by simpa using hj
    rw [h1, h2, if_pos rfl]
    rfl
  | succ d ih =>
    intro t k j x hk hj
    have e : 2 ^ (d + 1) = 2 ^ d + 2 ^ d := by rw [Nat.pow_succ]; omega
    rw [e] at hk hj
    obtain ⟨a, b, ht⟩ : ∃ a b : TrT α d, t = (show TrT α (d + 1) from (a, b)) := ⟨(show TrT α d × TrT α d from t).1, (show TrT α d × TrT α d from t).2, rfl⟩
    rw [ht, tset_s, tget_s]
    by_cases h1 : 2 ^ d ≤ k <;> by_cases h2 : 2 ^ d ≤ j
    · rw [if_pos h1, tget_s, if_pos h2, if_pos h2, ih b (k - 2 ^ d) (j - 2 ^ d) x (by omega) (by omega)]
      by_cases hjk : j = k
      · rw [if_pos hjk, if_pos (by rw [hjk])]
      · rw [if_neg hjk, if_neg (by omega)]
    · rw [if_pos h1, tget_s, if_neg h2, if_neg h2, if_neg (by omega)]
    · rw [if_neg h1, tget_s, if_pos h2, if_pos h2, if_neg (by omega)]
    · rw [if_neg h1, tget_s, if_neg h2, if_neg h2, ih a k j x (by omega) (by omega)]
noncomputable def nth (l : List AV) : Nat → AV := List.rec (motive := fun _ => Nat → AV) (fun _ => vW 3) (fun x _ ih i => Nat.rec x (fun j _ => ih j) i) l
noncomputable def nst (l : List AV) : Nat → AV → List AV := List.rec (motive := fun _ => Nat → AV → List AV) (fun _ _ => []) (fun x t ih i v => Nat.rec (v :: t) (fun j _ => x :: ih j v) i) l
theorem nth_nst : ∀ (l : List AV) (i j : Nat) (v : AV), nth (nst l i v) j = if j = i ∧ i < l.length then v else nth l j := by
  intro l
  induction l with
  | nil =>
    intro i j v
    rw [if_neg (by simp)]
    rfl
  | cons x t ih =>
    intro i j v
    cases i with
    | zero =>
      cases j with
      | zero => rw [if_pos ⟨rfl, by simp⟩]; rfl
      | succ j => rw [if_neg (by omega)]; rfl
    | succ i =>
      cases j with
      | zero => rw [if_neg (by omega)]; rfl
      | succ j =>
        have h := ih i j v
        show nth (nst t i v) j = if j + 1 = i + 1 ∧ i + 1 < (x :: t).length then v else nth t j
        rw [h]
        by_cases q : j = i ∧ i < t.length
        · rw [if_pos q, if_pos ⟨by omega, by simp; omega⟩]
        · rw [if_neg q, if_neg (by simp; omega)]
theorem nth_some : ∀ {l : List AV} {i : Nat}, i < l.length → l[i]? = some (nth l i) := by
  intro l
  induction l with
  | nil => intro i h; cases h
  | cons x t ih =>
    intro i h
    cases i with
    | zero => rfl
    | succ i =>
      rw [List.getElem?_cons_succ]
      exact ih (by simpa using h)
theorem nst_len : ∀ (l : List AV) (i : Nat) (v : AV), (nst l i v).length = l.length := by
  intro l
  induction l with
  | nil => intro i v; rfl
  | cons x t ih =>
    intro i v
    cases i with
    | zero => rfl
    | succ i => show (x :: nst t i v).length = _; rw [List.length_cons, ih, List.length_cons]
abbrev Mem : Type := TrT Cel 9
/-- of each script number the least and the greatest, counted from the least int on -/
abbrev Env9 : Type := List (Nat × Nat)
/-- an end: (0 a value, 1 none, 2 thrown, 3 cut; which), env, value, stack, locals, memory, next free cell, made -/
abbrev Res : Type := (Nat × Nat) × Env9 × AV × List AV × List AV × Mem × Nat × Nat
abbrev OR : Type := Option (List Res)
abbrev KK : Type := Env9 → Nat → Nat → List AV → List AV → Mem → OR
abbrev Call : Type := Nat → Env9 → Nat → List AV → Mem → OR
noncomputable def fN {α : Type} (n : Nat) (f : Nat → α) : α := Nat.rec (f 0) (fun m _ => f (Nat.succ m)) n
theorem fN_eq {α : Type} (n : Nat) (f : Nat → α) : fN n f = f n := by cases n <;> rfl
noncomputable def gd {α : Type} (b : Bool) (x : Option α) : Option α := Bool.rec none x b
theorem gd_some {α : Type} {b : Bool} {x : Option α} {r : α} (h : gd b x = some r) : b = true ∧ x = some r := by
  cases b with
  | false => cases h
  | true => exact ⟨rfl, h⟩
/-- a number, signed order kept -/
def bi (n : Nat) : Nat := (n + 2147483648) % 4294967296
noncomputable def isI (v : AV) : Bool := match v with | .inl _ => true | .inr (.inr (.inr (.inl _))) => true | _ => false
noncomputable def isJ (v : AV) : Bool := match v with | .inr (.inr (.inl _)) => true | .inr (.inr (.inr (.inr (.inl _)))) => true | _ => false
noncomputable def isA (v : AV) : Bool := match v with | .inr (.inl _) => true | .inr (.inr (.inr (.inr (.inr (.inl w))))) => Bool.rec true false (Nat.beq w 3) | _ => false
noncomputable def isCh (v : AV) : Bool := match v with | .inl n => Nat.ble n 127 | _ => false
noncomputable def isD (v : AV) : Bool := match v with | .inr (.inr (.inr (.inr (.inr (.inr (.inr _)))))) => true | _ => false
noncomputable def isF (v : AV) : Bool := match v with | .inr (.inr (.inr (.inr (.inr (.inr (.inl _)))))) => true | _ => false
noncomputable def isC2 (v : AV) : Bool := match v with | .inr (.inr (.inl _)) => true | .inr (.inr (.inr (.inr (.inl _)))) => true | .inr (.inr (.inr (.inr (.inr (.inr (.inr _)))))) => true | _ => false
noncomputable def isZ (v : AV) : Bool := match v with | .inl n => Nat.ble n 1 | _ => false
noncomputable def lk2 (L : List AV) (i : Nat) : Bool := Nat.rec true (fun j _ => Bool.rec true false (isC2 (nth L j))) i
abbrev Op1 : Type := Call → KK → KK
noncomputable def op_push (v : AV) : Op1 := fun _ k E n z L S M => k E n z L (v :: S) M
noncomputable def op_ld (f : AV → Bool) (i : Nat) : Op1 := fun _ k E n z L S M => gd (f (nth L i)) (k E n z L (nth L i :: S) M)
noncomputable def op_st (f : AV → Bool) (i : Nat) : Op1 := fun _ k E n z L S M => match S with
  | v :: S => gd (f v) (gd (lk2 L i) (k E n z (nst L i v) S M))
  | [] => none
noncomputable def op_st2 (f : AV → Bool) (i : Nat) : Op1 := fun _ k E n z L S M => match S with
  | v :: S => gd (f v) (gd (lk2 L i) (k E n z (nst (nst L i v) (i + 1) (vW 3)) S M))
  | [] => none
noncomputable def addK (a b : AV) (f : AV → OR) : OR := match a, b with
  | .inl x, .inl y => fN ((x + y) % 4294967296) fun r => f (.inl r)
  | .inr (.inr (.inr (.inl (some o)))), .inl y => f (vX (some (o.1, (o.2 + y) % 4294967296)))
  | .inl y, .inr (.inr (.inr (.inl (some o)))) => f (vX (some (o.1, (o.2 + y) % 4294967296)))
  | _, _ => f (vX none)
noncomputable def biK (g : Nat → Nat → Nat) (a b : AV) (f : AV → OR) : OR := match a, b with
  | .inl x, .inl y => fN (g x y) fun r => f (.inl r)
  | _, _ => f (vX none)
noncomputable def unK (g : Nat → Nat) (a : AV) (f : AV → OR) : OR := match a with
  | .inl x => fN (g x) fun r => f (.inl r)
  | _ => f (vX none)
noncomputable def op_iinc (i c : Nat) : Op1 := fun _ k E n z L S M => gd (isI (nth L i)) (gd (lk2 L i) (addK (nth L i) (vI c) fun r => k E n z (nst L i r) S M))
noncomputable def op_add : Op1 := fun _ k E n z L S M => match S with
  | b :: a :: S => gd (isI a) (gd (isI b) (addK a b fun r => k E n z L (r :: S) M))
  | _ => none
noncomputable def op_bin (g : Nat → Nat → Nat) : Op1 := fun _ k E n z L S M => match S with
  | b :: a :: S => gd (isI a) (gd (isI b) (biK g a b fun r => k E n z L (r :: S) M))
  | _ => none
noncomputable def op_un (g : Nat → Nat) : Op1 := fun _ k E n z L S M => match S with
  | a :: S => gd (isI a) (unK g a fun r => k E n z L (r :: S) M)
  | _ => none
noncomputable def op_dup : Op1 := fun _ k E n z L S M => match S with
  | a :: S => gd (Bool.rec true false (isC2 a)) (k E n z L (a :: a :: S) M)
  | _ => none
noncomputable def op_dup2 : Op1 := fun _ k E n z L S M => match S with
  | a :: b :: S => gd (Bool.rec true false (isC2 a)) (gd (Bool.rec true false (isC2 b)) (k E n z L (a :: b :: a :: b :: S) M))
  | _ => none
noncomputable def op_pop : Op1 := fun _ k E n z L S M => match S with
  | a :: S => gd (Bool.rec true false (isC2 a)) (k E n z L S M)
  | _ => none
noncomputable def toN (x : Int32) : Nat := x.toUInt32.toNat
noncomputable def toNL (x : Int64) : Nat := x.toUInt64.toNat
noncomputable def nthE (E : Env9) : Nat → Nat × Nat := List.rec (motive := fun _ => Nat → Nat × Nat) (fun _ => (0, 4294967295)) (fun x _ ih i => Nat.rec x (fun j _ => ih j) i) E
noncomputable def nstE (E : Env9) : Nat → Nat × Nat → Env9 := List.rec (motive := fun _ => Nat → Nat × Nat → Env9) (fun _ _ => []) (fun x t ih i v => Nat.rec (v :: t) (fun j _ => x :: ih j v) i) E
/-- the remainder by 3 of the script's number 1 stands at 6 -/
noncomputable def rem6 (E : Env9) (a : AV) (y : Nat) : Bool := match a with
  | .inr (.inr (.inr (.inl (some o)))) => Bool.rec false (Bool.rec false (Bool.rec false (Nat.beq (nthE E 4000).1 (nthE E 4000).2) (Nat.beq y 3)) (Nat.beq o.2 0)) (Nat.beq o.1 1)
  | _ => false
noncomputable def op_irem : Op1 := fun _ k E n z L S M => match S with
  | b :: a :: S => gd (isI a) (match b with
    | .inl y => gd (Nat.ble 1 (y % 4294967296)) (Bool.rec (biK (fun x y => toN (nI x - nI x / nI y * nI y)) a (.inl y) fun r => k E n z L (r :: S) M) (k E n z L (vI (bi (nthE E 4000).1) :: S) M) (rem6 E a y))
    | _ => none)
  | _ => none
noncomputable def op_i2l : Op1 := fun _ k E n z L S M => match S with
  | .inl x :: S => fN (toNL (nI x).toInt64) fun r => k E n z L (vJ r :: S) M
  | .inr (.inr (.inr (.inl (some o)))) :: S => gd (Nat.ble (o.1 + 1) 16) (fN (o.1 + 16 * o.2) fun r => k E n z L (vL r :: S) M)
  | _ => none
noncomputable def op_l2i : Op1 := fun _ k E n z L S M => match S with
  | .inr (.inr (.inl x)) :: S => fN (toN (lN x).toInt32) fun r => k E n z L (vI r :: S) M
  | _ => none
noncomputable def op_lbin (g : Nat → Nat → Nat) : Op1 := fun _ k E n z L S M => match S with
  | .inr (.inr (.inl y)) :: .inr (.inr (.inl x)) :: S => fN (g x y) fun r => k E n z L (vJ r :: S) M
  | _ => none
noncomputable def op_lsh (g : Nat → Nat → Nat) : Op1 := fun _ k E n z L S M => match S with
  | .inl y :: .inr (.inr (.inl x)) :: S => fN (g x y) fun r => k E n z L (vJ r :: S) M
  | _ => none
noncomputable def app (a b : OR) : OR := match a with
  | some x => (match b with | some y => some (x ++ y) | none => none)
  | none => none
/-- the script's number i against a number (counted from the least int on): smaller, equal, greater -/
noncomputable def fork3 (E : Env9) (i c : Nat) (kl ke kg : Env9 → OR) : OR :=
  fN (nthE E i).1 fun lo => fN (nthE E i).2 fun hi =>
    app (Bool.rec (some []) (kl (nstE E i (lo, Bool.rec (c - 1) hi (Nat.ble hi (c - 1))))) (Nat.ble (lo + 1) c))
      (app (Bool.rec (some []) (Bool.rec (some []) (ke (nstE E i (c, c))) (Nat.ble c hi)) (Nat.ble lo c))
        (Bool.rec (some []) (kg (nstE E i (Bool.rec (c + 1) lo (Nat.ble (c + 1) lo), hi))) (Nat.ble (c + 1) hi)))
noncomputable def c3 (u w : Nat) (a b c : OR) : OR := Bool.rec (Bool.rec c b (Nat.beq u w)) a (Nat.ble (u + 1) w)
noncomputable def cmp3 (a b : AV) (E : Env9) (kl ke kg : Env9 → OR) : OR := match a, b with
  | .inl x, .inl y => c3 (bi x) (bi y) (kl E) (ke E) (kg E)
  | .inr (.inr (.inr (.inl (some o)))), .inl y => gd (Nat.beq o.2 0) (fork3 E o.1 (bi y) kl ke kg)
  | .inl y, .inr (.inr (.inr (.inl (some o)))) => gd (Nat.beq o.2 0) (fork3 E o.1 (bi y) kg ke kl)
  | .inr (.inr (.inr (.inl (some o)))), .inr (.inr (.inr (.inl (some o')))) => gd (Nat.beq o.1 o'.1) (gd (Nat.beq o.2 o'.2) (ke E))
  | _, _ => none
noncomputable def op_lcmp : Op1 := fun _ k E n z L S M => match S with
  | .inr (.inr (.inl y)) :: .inr (.inr (.inl x)) :: S => fN (toN (lg_cmp (lN x) (lN y))) fun r => k E n z L (vI r :: S) M
  | .inr (.inr (.inl y)) :: .inr (.inr (.inr (.inr (.inl i)))) :: S =>
    fN (y % 4294967296) fun w => gd (Nat.ble (i + 1) 16) (gd (Nat.beq (toNL (nI w).toInt64) y) (fork3 E i (bi w) (fun E => k E n z L (vI 4294967295 :: S) M) (fun E => k E n z L (vI 0 :: S) M) (fun E => k E n z L (vI 1 :: S) M)))
  | .inr (.inr (.inr (.inr (.inl i')))) :: .inr (.inr (.inr (.inr (.inl i)))) :: S => gd (Nat.beq i i') (k E n z L (vI 0 :: S) M)
  | _ => none
noncomputable def op_getf (c i : Nat) : Op1 := fun _ k E n z L S M => match S with
  | .inr (.inl a) :: S => (match tget 9 M a with
    | .inl q => gd (Nat.beq q.1 c) (gd (Nat.ble (i + 1) q.2.length) (k E n z L (nth q.2 i :: S) M))
    | _ => none)
  | _ => none
noncomputable def op_putf (f : AV → Bool) (c i : Nat) : Op1 := fun _ k E n z L S M => match S with
  | v :: .inr (.inl a) :: S => gd (f v) (match tget 9 M a with
    | .inl q => gd (Nat.beq q.1 c) (gd (Nat.ble (i + 1) q.2.length) (k E n z L S (tset 9 M a (.inl (q.1, nst q.2 i v)))))
    | _ => none)
  | _ => none
noncomputable def pget (p j : Nat) : Nat := (p >>> (32 * j)) % 4294967296
noncomputable def pset (p j x : Nat) : Nat := p ^^^ ((pget p j ^^^ (x % 4294967296)) <<< (32 * j))
noncomputable def aget (p : Nat) (ov : List (Nat × AV)) (j : Nat) : AV := List.rec (vI (pget p j)) (fun q _ ih => Bool.rec ih q.2 (Nat.beq q.1 j)) ov
noncomputable def orm (ov : List (Nat × AV)) (j : Nat) : List (Nat × AV) := List.rec (motive := fun _ => List (Nat × AV)) [] (fun q _ ih => Bool.rec (q :: ih) ih (Nat.beq q.1 j)) ov
noncomputable def op_iald (t : Nat) : Op1 := fun _ k E n z L S M => match S with
  | .inl j :: .inr (.inl a) :: S => (match tget 9 M a with
    | .inr (.inl q) => gd (Nat.beq q.1 t) (gd (Nat.ble (j + 1) q.2.1) (k E n z L (aget q.2.2.1 q.2.2.2 j :: S) M))
    | _ => none)
  | _ => none
noncomputable def aset (q : Nat × Nat × Nat × List (Nat × AV)) (j : Nat) (v : AV) (f : Cel → OR) : OR := match v with
  | .inl x => fN (pset q.2.2.1 j x) fun p => f (cI q.1 q.2.1 p (orm q.2.2.2 j))
  | v => f (cI q.1 q.2.1 q.2.2.1 ((j, v) :: q.2.2.2))
noncomputable def op_iast : Op1 := fun _ k E n z L S M => match S with
  | v :: .inl j :: .inr (.inl a) :: S => gd (isI v) (match tget 9 M a with
    | .inr (.inl q) => gd (Nat.beq q.1 0) (gd (Nat.ble (j + 1) q.2.1) (aset q j v fun c => k E n z L S (tset 9 M a c)))
    | _ => none)
  | _ => none
noncomputable def op_bast : Op1 := fun _ k E n z L S M => match S with
  | v :: .inl j :: .inr (.inl a) :: S => gd (isI v) (match tget 9 M a with
    | .inr (.inl q) => gd (Nat.ble (j + 1) q.2.1) (Bool.rec
        (gd (Nat.beq q.1 1) (unK (fun x => toN (nI x).toInt8.toInt32) v fun v => aset q j v fun c => k E n z L S (tset 9 M a c)))
        (gd (isZ v) (aset q j v fun c => k E n z L S (tset 9 M a c))) (Nat.beq q.1 2))
    | _ => none)
  | _ => none
noncomputable def op_aald : Op1 := fun _ k E n z L S M => match S with
  | .inl j :: .inr (.inl a) :: S => (match tget 9 M a with
    | .inr (.inr (.inl q)) => gd (Nat.ble (j + 1) q.2.length) (k E n z L (nth q.2 j :: S) M)
    | _ => none)
  | _ => none
noncomputable def op_aast (c : Nat) : Op1 := fun _ k E n z L S M => match S with
  | .inr (.inl v) :: .inl j :: .inr (.inl a) :: S => (match tget 9 M a, tget 9 M v with
    | .inr (.inr (.inl q)), .inl o => gd (Nat.beq q.1 c) (gd (Nat.beq o.1 c) (gd (Nat.ble (j + 1) q.2.length) (k E n z L S (tset 9 M a (.inr (.inr (.inl (q.1, nst q.2 j (vR v)))))))))
    | _, _ => none)
  | _ => none
noncomputable def op_lald : Op1 := fun _ k E n z L S M => match S with
  | .inl j :: .inr (.inl a) :: S => (match tget 9 M a with
    | .inr (.inr (.inr q)) => gd (Nat.ble (j + 1) q.length) (k E n z L (nth q j :: S) M)
    | _ => none)
  | _ => none
noncomputable def op_last : Op1 := fun _ k E n z L S M => match S with
  | v :: .inl j :: .inr (.inl a) :: S => gd (isJ v) (match tget 9 M a with
    | .inr (.inr (.inr q)) => gd (Nat.ble (j + 1) q.length) (k E n z L S (tset 9 M a (.inr (.inr (.inr (nst q j v))))))
    | _ => none)
  | _ => none
noncomputable def op_alen : Op1 := fun _ k E n z L S M => match S with
  | .inr (.inl a) :: S => (match tget 9 M a with
    | .inr (.inl q) => k E n z L (vI q.2.1 :: S) M
    | _ => none)
  | _ => none
noncomputable def op_new (B : Nat) (w : Nat) (c : Cel) : Op1 := fun _ k E n z L S M =>
  gd (Nat.ble (n + 1) 512) (gd (Nat.ble (z + w + 1) B) (fN (n + 1) fun n' => fN (z + w + 1) fun z' => k E n' z' L (vR n :: S) (tset 9 M n c)))
noncomputable def op_newa (B : Nat) (f : Nat → Cel) : Op1 := fun _ k E n z L S M => match S with
  | .inl N :: S => gd (Nat.ble N 100000) (gd (Nat.ble (n + 1) 512) (gd (Nat.ble (z + N + 1) B) (fN (n + 1) fun n' => fN (z + N + 1) fun z' => k E n' z' L (vR n :: S) (tset 9 M n (f N)))))
  | _ => none
noncomputable def repA (v : AV) (N : Nat) : List AV := Nat.rec [] (fun _ ih => v :: ih) N
noncomputable def op_oinit : Op1 := fun _ k E n z L S M => match S with
  | .inr (.inl _) :: S => (match S with | [] => k E n z L [] M | _ => none)
  | _ => none
/-- the script: its number at a known place; its length -/
noncomputable def op_sld (N : Nat) : Op1 := fun _ k E n z L S M => match S with
  | .inl j :: .inr (.inr (.inr (.inr (.inr (.inl w))))) :: S => gd (Nat.beq w 2) (gd (Nat.ble (j + 1) N) (Bool.rec (k E n z L (vX (some (j, 0)) :: S) M) (k E n z L (vI (bi (nthE E j).1) :: S) M) (Nat.beq (nthE E j).1 (nthE E j).2)))
  | _ => none
noncomputable def op_slen (N : Nat) : Op1 := fun _ k E n z L S M => match S with
  | .inr (.inr (.inr (.inr (.inr (.inl w))))) :: S => gd (Nat.beq w 2) (k E n z L (vI N :: S) M)
  | _ => none
/-- of a text: its bytes, its coder; a static that is one; one of which only this is known: a reference or null; the length of a text's bytes; one of them -/
noncomputable def op_tval : Op1 := fun _ k E n z L S M => match S with
  | .inr (.inr (.inr (.inr (.inr (.inl w))))) :: S => gd (Nat.ble 4 w) (gd (Nat.ble (w + 1) 31) (k E n z L (vW (w + 1000) :: S) M))
  | _ => none
noncomputable def op_tcod : Op1 := fun _ k E n z L S M => match S with
  | .inr (.inr (.inr (.inr (.inr (.inl w))))) :: S => gd (Nat.ble 4 w) (gd (Nat.ble (w + 1) 31) (k E n z L (vI 0 :: S) M))
  | _ => none
noncomputable def nthN (l : List Nat) (d : Nat) : Nat → Nat := List.rec (motive := fun _ => Nat → Nat) (fun _ => d) (fun x _ ih i => Nat.rec x (fun j _ => ih j) i) l
noncomputable def nthL (l : List (List Nat)) : Nat → List Nat := List.rec (motive := fun _ => Nat → List Nat) (fun _ => []) (fun x _ ih i => Nat.rec x (fun j _ => ih j) i) l
noncomputable def op_tlen (T : List (List Nat)) : Op1 := fun _ k E n z L S M => match S with
  | .inr (.inr (.inr (.inr (.inr (.inl w))))) :: S => gd (Nat.ble 1004 w) (gd (Nat.ble (w + 1) 1031) (fN (nthL T (w - 1004)).length fun r => k E n z L (vI r :: S) M))
  | _ => none
noncomputable def op_tbal (T : List (List Nat)) : Op1 := fun _ k E n z L S M => match S with
  | .inl j :: .inr (.inr (.inr (.inr (.inr (.inl w))))) :: S => gd (Nat.ble 1004 w) (gd (Nat.ble (w + 1) 1031) (gd (Nat.ble (j + 1) (nthL T (w - 1004)).length) (fN (nthN (nthL T (w - 1004)) 0 j) fun r => k E n z L (vI r :: S) M)))
  | _ => none
noncomputable def gT (as : List AV) (_ : Mem) : Bool := match as with
  | .inr (.inr (.inr (.inr (.inr (.inl w))))) :: _ => Bool.rec false (Nat.ble (w + 1) 31) (Nat.ble 4 w)
  | _ => false
noncomputable def op_i2d : Op1 := fun _ k E n z L S M => match S with
  | .inl x :: S => k E n z L (vD (FP.i2d (nI x)).toNat :: S) M
  | _ => none
noncomputable def op_i2f : Op1 := fun _ k E n z L S M => match S with
  | .inl x :: S => k E n z L (vF (FP.i2f (nI x)).toNat :: S) M
  | _ => none
noncomputable def op_f2d : Op1 := fun _ k E n z L S M => match S with
  | .inr (.inr (.inr (.inr (.inr (.inr (.inl x)))))) :: S => gd (Nat.ble ((FP.f2d (UInt32.ofNat x) &&& 0x7fffffffffffffff).toNat) 9218868437227405312) (k E n z L (vD (FP.f2d (UInt32.ofNat x)).toNat :: S) M)
  | _ => none
noncomputable def op_ddiv : Op1 := fun _ k E n z L S M => match S with
  | .inr (.inr (.inr (.inr (.inr (.inr (.inr y)))))) :: .inr (.inr (.inr (.inr (.inr (.inr (.inr x)))))) :: S => gd (Nat.ble ((FP.ddiv (UInt64.ofNat x) (UInt64.ofNat y) &&& 0x7fffffffffffffff).toNat) 9218868437227405312) (k E n z L (vD (FP.ddiv (UInt64.ofNat x) (UInt64.ofNat y)).toNat :: S) M)
  | _ => none
noncomputable def op_fdiv : Op1 := fun _ k E n z L S M => match S with
  | .inr (.inr (.inr (.inr (.inr (.inr (.inl y)))))) :: .inr (.inr (.inr (.inr (.inr (.inr (.inl x)))))) :: S => gd (Nat.ble ((FP.fdiv (UInt32.ofNat x) (UInt32.ofNat y) &&& 0x7fffffff).toNat) 2139095040) (k E n z L (vF (FP.fdiv (UInt32.ofNat x) (UInt32.ofNat y)).toNat :: S) M)
  | _ => none
noncomputable def op_dcmp (o : CmpOp) : Op1 := fun _ k E n z L S M => match S with
  | .inr (.inr (.inr (.inr (.inr (.inr (.inr y)))))) :: .inr (.inr (.inr (.inr (.inr (.inr (.inr x)))))) :: S => fN (toN (Op.cmpValue (FP.dcmp (UInt64.ofNat x) (UInt64.ofNat y)) o)) fun r => k E n z L (vI r :: S) M
  | _ => none
noncomputable def pcpy (p q sp dp N : Nat) : Nat := Nat.rec q (fun j ih => pset ih (dp + j) (pget p (sp + j))) N
noncomputable def catS (S : List AV) : Nat := List.rec 0 (fun v _ ih => Bool.rec (ih + 1) (ih + 2) (isC2 v)) S
noncomputable def op_copy : Op1 := fun _ k E n z L S M => match S with
  | .inl N :: .inl dp :: .inr (.inl b) :: .inl sp :: .inr (.inl a) :: S => (match tget 9 M a, tget 9 M b with
    | .inr (.inl u), .inr (.inl w) => gd (Nat.beq u.1 0) (gd (Nat.beq w.1 0) (gd (Nat.ble (sp + N) u.2.1) (gd (Nat.ble (dp + N) w.2.1) (match u.2.2.2, w.2.2.2 with
      | [], [] => gd (Nat.ble (catS S) 8) (gd (Nat.ble N 100000) (fN (pcpy u.2.2.1 w.2.2.1 sp dp N) fun r => k E n z L S (tset 9 M b (cI 0 w.2.1 r []))))
      | _, _ => none))))
    | _, _ => none)
  | _ => none
noncomputable def spl (na : Nat) : List AV → List AV → List AV × List AV := Nat.rec (motive := fun _ => List AV → List AV → List AV × List AV) (fun acc S => (acc, S)) (fun _ ih acc S => match S with | v :: S => ih (v :: acc) S | [] => ([], [])) na
noncomputable def joinR (f : Res → OR) (rs : List Res) : OR := List.rec (some []) (fun r _ ih => app (f r) ih) rs
noncomputable def gV (ci : Nat) (as : List AV) (M : Mem) : Bool := match as with
  | .inr (.inl k) :: _ => (match tget 9 M k with | .inl q => Nat.beq q.1 ci | _ => false)
  | _ => false
noncomputable def gI (as : List AV) (_ : Mem) : Bool := match as with
  | .inr (.inl _) :: _ => true
  | _ => false
noncomputable def gS (_ : List AV) (_ : Mem) : Bool := true
/-- a call of y with na arguments; bud: what it may make -/
noncomputable def op_call (g : List AV → Mem → Bool) (y na bud B : Nat) : Op1 := fun call k E n z L S M =>
  gd (Nat.ble na S.length) (gd (Nat.ble (catS (spl na [] S).2) 8) (gd (Nat.ble (z + bud) B) (gd (g (spl na [] S).1 M) (match call y E n (spl na [] S).1 M with
    | some rs => joinR (fun r => match r with
      | ((0, _), E', v, _, _, M', n', _) => fN n' fun n' => k E' n' (z + bud) L (v :: (spl na [] S).2) M'
      | ((1, _), E', _, _, _, M', n', _) => fN n' fun n' => k E' n' (z + bud) L (spl na [] S).2 M'
      | _ => none) rs
    | none => none))))
/-- .. of a method that may throw: what it throws leaves this one too -/
noncomputable def op_callX (g : List AV → Mem → Bool) (y na bud B : Nat) : Op1 := fun call k E n z L S M =>
  gd (Nat.ble na S.length) (gd (Nat.ble (catS (spl na [] S).2) 8) (gd (Nat.ble (z + bud) B) (gd (g (spl na [] S).1 M) (match call y E n (spl na [] S).1 M with
    | some rs => joinR (fun r => match r with
      | ((0, _), E', v, _, _, M', n', _) => fN n' fun n' => k E' n' (z + bud) L (v :: (spl na [] S).2) M'
      | ((1, _), E', _, _, _, M', n', _) => fN n' fun n' => k E' n' (z + bud) L (spl na [] S).2 M'
      | ((2, x), E', _, _, _, M', n', _) => fN n' fun n' => some [((2, x), E', vW 3, [], [], M', n', z + bud)]
      | _ => none) rs
    | none => none))))
noncomputable def op_fail : Op1 := fun _ _ _ _ _ _ _ _ => none
/-- a block ends: where it goes on -/
abbrev Jmp : Type := Nat → KK
abbrev Trm : Type := Call → Jmp → KK
noncomputable def tm_fail : Trm := fun _ _ _ _ _ _ _ _ => none
noncomputable def tm_goto (t : Nat) : Trm := fun _ j => j t
noncomputable def tm_icmp (tl te tg : Nat) : Trm := fun _ j E n z L S M => match S with
  | b :: a :: S => cmp3 a b E (fun E => j tl E n z L S M) (fun E => j te E n z L S M) (fun E => j tg E n z L S M)
  | _ => none
noncomputable def tm_if (tl te tg : Nat) : Trm := fun _ j E n z L S M => match S with
  | a :: S => cmp3 a (vI 0) E (fun E => j tl E n z L S M) (fun E => j te E n z L S M) (fun E => j tg E n z L S M)
  | _ => none
noncomputable def tm_switch (d : Nat) (ts : List Nat) : Trm := fun _ j E n z L S M => match S with
  | .inl x :: S => gd (Nat.ble x 4294967295) (j (nthN ts d x) E n z L S M)
  | _ => none
noncomputable def tm_ret (f : AV → Bool) (B : Nat) : Trm := fun _ _ E n z _ S M => match S with
  | v :: S => (match S with | [] => gd (f v) (gd (Nat.ble z B) (some [((0, 0), E, v, [], [], M, n, z)])) | _ => none)
  | _ => none
noncomputable def tm_vret (B : Nat) : Trm := fun _ _ E n z _ S M => match S with | _ :: _ => none | [] => gd (Nat.ble z B) (some [((1, 0), E, vW 3, [], [], M, n, z)])
noncomputable def tm_throw (x B : Nat) : Trm := fun _ _ E n z _ S M => match S with
  | [] => gd (Nat.ble (z + 7) B) (some [((2, x), E, vW 3, [], [], M, n, z)])
  | _ => none
noncomputable def hcase (h : Nat) (f : Nat → OR) : OR := Nat.rec none (fun b _ => f b) h
/-- a call whose thrown ends go on at a block of this method: hd gives the block by what was thrown -/
noncomputable def tm_callH (g : List AV → Mem → Bool) (y na bud B t : Nat) (hd : List Nat) : Trm := fun call j E n z L S M =>
  gd (Nat.ble na S.length) (gd (Nat.ble (catS (spl na [] S).2) 8) (gd (Nat.ble (z + bud) B) (gd (g (spl na [] S).1 M) (match call y E n (spl na [] S).1 M with
    | some rs => joinR (fun r => match r with
      | ((0, _), E', v, _, _, M', n', _) => fN n' fun n' => j t E' n' (z + bud) L (v :: (spl na [] S).2) M'
      | ((1, _), E', _, _, _, M', n', _) => fN n' fun n' => j t E' n' (z + bud) L (spl na [] S).2 M'
      | ((2, x), E', _, _, _, M', n', _) => fN n' fun n' => hcase (nthN hd 0 x) fun b => j b E' n' (z + bud) L [vW 1] M'
      | _ => none) rs
    | none => none))))
noncomputable def tm_cut (q : Nat) : Trm := fun _ _ E n z L S M => some [((3, q), E, vW 3, S, L, M, n, z)]
noncomputable def runB (c : Call) (j : Jmp) (t : Trm) (l : List Op1) : KK := List.rec (motive := fun _ => KK) (t c j) (fun o _ ih => o c ih) l
abbrev Blk : Type := List Op1 × Trm
noncomputable def runF (c : Call) (d : Nat) (code : TrT Blk d) (f : Nat) : Jmp := Nat.rec (motive := fun _ => Jmp) (fun _ _ _ _ _ _ _ => none) (fun _ ih b => runB c ih (tget d code b).2 (tget d code b).1) f
