section
/-! A small machine over abstract values: what a method does to a memory of numbered cells, to be run by the kernel. -/
abbrev AV : Type := Nat ⊕ Nat ⊕ Nat ⊕ Option (Nat × Nat) ⊕ Nat ⊕ Nat ⊕ (Nat ⊕ Nat)
/-- a known int, by its number mod 2^32 -/
abbrev vI (n : Nat) : AV := .inl n
/-- the cell k -/
abbrev vR (k : Nat) : AV := .inr (.inl k)
/-- a known long -/
abbrev vJ (n : Nat) : AV := .inr (.inr (.inl n))
/-- an int: none: any; (i, o): the script's number i, and o -/
abbrev vX (o : Option (Nat × Nat)) : AV := .inr (.inr (.inr (.inl o)))
/-- the script's number i % 16, and i / 16, as a long -/
abbrev vL (i : Nat) : AV := .inr (.inr (.inr (.inr (.inl i))))
/-- 0 null, 1 some reference, 2 the script, 3 nothing known, from 4 on the texts, from 1004 on their bytes, 5000 null or some reference -/
abbrev vW (i : Nat) : AV := .inr (.inr (.inr (.inr (.inr (.inl i)))))
abbrev vF (n : Nat) : AV := .inr (.inr (.inr (.inr (.inr (.inr (.inl n))))))
abbrev vD (n : Nat) : AV := .inr (.inr (.inr (.inr (.inr (.inr (.inr n))))))
/-- a cell: an object (class, fields); a row of ints, bytes, booleans (kind, length, known numbers packed, others by place); a row of references; a row of longs -/
abbrev Cel : Type := (Nat × List AV) ⊕ (Nat × Nat × Nat × List (Nat × AV)) ⊕ (Nat × List AV) ⊕ List AV
abbrev cO (c : Nat) (fs : List AV) : Cel := .inl (c, fs)
abbrev cI (t N p : Nat) (ov : List (Nat × AV)) : Cel := .inr (.inl (t, N, p, ov))
abbrev cQ (c : Nat) (xs : List AV) : Cel := .inr (.inr (.inl (c, xs)))
abbrev cL (xs : List AV) : Cel := .inr (.inr (.inr xs))
def TrT (α : Type) (d : Nat) : Type := Nat.rec α (fun _ ih => ih × ih) d
noncomputable def tget {α : Type} (d : Nat) : TrT α d → Nat → α :=
  Nat.rec (motive := fun d => TrT α d → Nat → α) (fun t _ => t) (fun d ih t k => Bool.rec (ih t.1 k) (ih t.2 (k - 2 ^ d)) (Nat.ble (2 ^ d) k)) d
noncomputable def tset {α : Type} (d : Nat) : TrT α d → Nat → α → TrT α d :=
  Nat.rec (motive := fun d => TrT α d → Nat → α → TrT α d) (fun _ _ x => x) (fun d ih t k x => Bool.rec (ih t.1 k x, t.2) (t.1, ih t.2 (k - 2 ^ d) x) (Nat.ble (2 ^ d) k)) d
noncomputable def trep {α : Type} (x : α) (d : Nat) : TrT α d := Nat.rec (motive := fun d => TrT α d) x (fun _ ih => (ih, ih)) d
theorem tget_s {α : Type} {d : Nat} (a b : TrT α d) (j : Nat) : tget (d + 1) (show TrT α (d + 1) from (a, b)) j = if 2 ^ d ≤ j then tget d b (j - 2 ^ d) else tget d a j := by
  show (Bool.rec (tget d a j) (tget d b (j - 2 ^ d)) (Nat.ble (2 ^ d) j) : α) = _
  cases h : Nat.ble (2 ^ d) j with
  | false => rw [if_neg (fun q => by rw [Nat.ble_eq_true_of_le q] at h; cases h)]
  | true => rw [if_pos (Nat.le_of_ble_eq_true h)]
theorem tset_s {α : Type} {d : Nat} (a b : TrT α d) (k : Nat) (x : α) : tset (d + 1) (show TrT α (d + 1) from (a, b)) k x = if 2 ^ d ≤ k then (show TrT α (d + 1) from (a, tset d b (k - 2 ^ d) x)) else (show TrT α (d + 1) from (tset d a k x, b)) := by
  show (Bool.rec (show TrT α (d + 1) from (tset d a k x, b)) (show TrT α (d + 1) from (a, tset d b (k - 2 ^ d) x)) (Nat.ble (2 ^ d) k) : TrT α (d + 1)) = _
  cases h : Nat.ble (2 ^ d) k with
  | false => rw [if_neg (fun q => by rw [Nat.ble_eq_true_of_le q] at h; cases h)]
  | true => rw [if_pos (Nat.le_of_ble_eq_true h)]
theorem tget_tset {α : Type} : ∀ (d : Nat) (t : TrT α d) (k j : Nat) (x : α), k < 2 ^ d → j < 2 ^ d → tget d (tset d t k x) j = if j = k then x else tget d t j := by
  intro d
  induction d with
  | zero =>
    intro t k j x hk hj
    have h1 : k = 0 := by simpa using hk
    have h2 : j = 0 := by simpa using hj
    rw [h1, h2, if_pos rfl]
    rfl
  | succ d ih =>
    intro t k j x hk hj
    have e : 2 ^ (d + 1) = 2 ^ d + 2 ^ d := by rw [Nat.pow_succ]; omega
    rw [e] at hk hj
    obtain ⟨a, b, ht⟩ : ∃ a b : TrT α d, t = (show TrT α (d + 1) from (a, b)) := ⟨(show TrT α d × TrT α d from t).1, (show TrT α d × TrT α d from t).2, rfl⟩
    rw [ht, tset_s, tget_s]
    by_cases h1 : 2 ^ d ≤ k <;> by_cases h2 : 2 ^ d ≤ j
    · rw [if_pos h1, tget_s, if_pos h2, if_pos h2, ih b (k - 2 ^ d) (j - 2 ^ d) x (by omega) (by omega)]
      by_cases hjk : j = k
      · rw [if_pos hjk, if_pos (by rw [hjk])]
      · rw [if_neg hjk, if_neg (by omega)]
    · rw [if_pos h1, tget_s, if_neg h2, if_neg h2, if_neg (by omega)]
    · rw [if_neg h1, tget_s, if_pos h2, if_pos h2, if_neg (by omega)]
    · rw [if_neg h1, tget_s, if_neg h2, if_neg h2, ih a k j x (by omega) (by omega)]
noncomputable def nth (l : List AV) : Nat → AV := List.rec (motive := fun _ => Nat → AV) (fun _ => vW 3) (fun x _ ih i => Nat.rec x (fun j _ => ih j) i) l
noncomputable def nst (l : List AV) : Nat → AV → List AV := List.rec (motive := fun _ => Nat → AV → List AV) (fun _ _ => []) (fun x t ih i v => Nat.rec (v :: t) (fun j _ => x :: ih j v) i) l
theorem nth_nst : ∀ (l : List AV) (i j : Nat) (v : AV), nth (nst l i v) j = if j = i ∧ i < l.length then v else nth l j := by
  intro l
  induction l with
  | nil =>
    intro i j v
    rw [if_neg (by simp)]
    rfl
  | cons x t ih =>
    intro i j v
    cases i with
    | zero =>
      cases j with
      | zero => rw [if_pos ⟨rfl, by simp⟩]; rfl
      | succ j => rw [if_neg (by omega)]; rfl
    | succ i =>
      cases j with
      | zero => rw [if_neg (by omega)]; rfl
      | succ j =>
        have h := ih i j v
        show nth (nst t i v) j = if j + 1 = i + 1 ∧ i + 1 < (x :: t).length then v else nth t j
        rw [h]
        by_cases q : j = i ∧ i < t.length
        · rw [if_pos q, if_pos ⟨by omega, by simp; omega⟩]
        · rw [if_neg q, if_neg (by simp; omega)]
theorem nth_some : ∀ {l : List AV} {i : Nat}, i < l.length → l[i]? = some (nth l i) := by
  intro l
  induction l with
  | nil => intro i h; cases h
  | cons x t ih =>
    intro i h
    cases i with
    | zero => rfl
    | succ i =>
      rw [List.getElem?_cons_succ]
      exact ih (by simpa using h)
theorem nst_len : ∀ (l : List AV) (i : Nat) (v : AV), (nst l i v).length = l.length := by
  intro l
  induction l with
  | nil => intro i v; rfl
  | cons x t ih =>
    intro i v
    cases i with
    | zero => rfl
    | succ i => show (x :: nst t i v).length = _; rw [List.length_cons, ih, List.length_cons]
abbrev Mem : Type := TrT Cel 9
/-- of each script number the least and the greatest, counted from the least int on -/
abbrev Env9 : Type := List (Nat × Nat)
/-- an end: (0 a value, 1 none, 2 thrown, 3 cut; which), env, value, stack, locals, memory, next free cell, made -/
abbrev Res : Type := (Nat × Nat) × Env9 × AV × List AV × List AV × Mem × Nat × Nat
abbrev OR : Type := Option (List Res)
abbrev KK : Type := Env9 → Nat → Nat → List AV → List AV → Mem → OR
abbrev Call : Type := Nat → Env9 → Nat → List AV → Mem → OR
noncomputable def fN {α : Type} (n : Nat) (f : Nat → α) : α := Nat.rec (f 0) (fun m _ => f (Nat.succ m)) n
theorem fN_eq {α : Type} (n : Nat) (f : Nat → α) : fN n f = f n := by cases n <;> rfl
noncomputable def gd {α : Type} (b : Bool) (x : Option α) : Option α := Bool.rec none x b
theorem gd_some {α : Type} {b : Bool} {x : Option α} {r : α} (h : gd b x = some r) : b = true ∧ x = some r := by
  cases b with
  | false => cases h
  | true => exact ⟨rfl, h⟩
/-- a number, signed order kept -/
def bi (n : Nat) : Nat := (n + 2147483648) % 4294967296
noncomputable def isI (v : AV) : Bool := match v with | .inl _ => true | .inr (.inr (.inr (.inl _))) => true | _ => false
noncomputable def isJ (v : AV) : Bool := match v with | .inr (.inr (.inl _)) => true | .inr (.inr (.inr (.inr (.inl _)))) => true | _ => false
noncomputable def isA (v : AV) : Bool := match v with | .inr (.inl _) => true | .inr (.inr (.inr (.inr (.inr (.inl w))))) => Bool.rec true false (Nat.beq w 3) | _ => false
noncomputable def isCh (v : AV) : Bool := match v with | .inl n => Nat.ble n 127 | _ => false
noncomputable def isD (v : AV) : Bool := match v with | .inr (.inr (.inr (.inr (.inr (.inr (.inr _)))))) => true | _ => false
noncomputable def isF (v : AV) : Bool := match v with | .inr (.inr (.inr (.inr (.inr (.inr (.inl _)))))) => true | _ => false
noncomputable def isC2 (v : AV) : Bool := match v with | .inr (.inr (.inl _)) => true | .inr (.inr (.inr (.inr (.inl _)))) => true | .inr (.inr (.inr (.inr (.inr (.inr (.inr _)))))) => true | _ => false
noncomputable def isZ (v : AV) : Bool := match v with | .inl n => Nat.ble n 1 | _ => false
noncomputable def lk2 (L : List AV) (i : Nat) : Bool := Nat.rec true (fun j _ => Bool.rec true false (isC2 (nth L j))) i
abbrev Op1 : Type := Call → KK → KK
noncomputable def op_push (v : AV) : Op1 := fun _ k E n z L S M => k E n z L (v :: S) M
noncomputable def op_ld (f : AV → Bool) (i : Nat) : Op1 := fun _ k E n z L S M => gd (f (nth L i)) (k E n z L (nth L i :: S) M)
noncomputable def op_st (f : AV → Bool) (i : Nat) : Op1 := fun _ k E n z L S M => match S with
  | v :: S => gd (f v) (gd (lk2 L i) (k E n z (nst L i v) S M))
  | [] => none
noncomputable def op_st2 (f : AV → Bool) (i : Nat) : Op1 := fun _ k E n z L S M => match S with
  | v :: S => gd (f v) (gd (lk2 L i) (k E n z (nst (nst L i v) (i + 1) (vW 3)) S M))
  | [] => none
noncomputable def addK (a b : AV) (f : AV → OR) : OR := match a, b with
  | .inl x, .inl y => fN ((x + y) % 4294967296) fun r => f (.inl r)
  | .inr (.inr (.inr (.inl (some o)))), .inl y => f (vX (some (o.1, (o.2 + y) % 4294967296)))
  | .inl y, .inr (.inr (.inr (.inl (some o)))) => f (vX (some (o.1, (o.2 + y) % 4294967296)))
  | _, _ => f (vX none)
noncomputable def biK (g : Nat → Nat → Nat) (a b : AV) (f : AV → OR) : OR := match a, b with
  | .inl x, .inl y => fN (g x y) fun r => f (.inl r)
  | _, _ => f (vX none)
noncomputable def unK (g : Nat → Nat) (a : AV) (f : AV → OR) : OR := match a with
  | .inl x => fN (g x) fun r => f (.inl r)
  | _ => f (vX none)
noncomputable def op_iinc (i c : Nat) : Op1 := fun _ k E n z L S M => gd (isI (nth L i)) (gd (lk2 L i) (addK (nth L i) (vI c) fun r => k E n z (nst L i r) S M))
noncomputable def op_add : Op1 := fun _ k E n z L S M => match S with
  | b :: a :: S => gd (isI a) (gd (isI b) (addK a b fun r => k E n z L (r :: S) M))
  | _ => none
noncomputable def op_bin (g : Nat → Nat → Nat) : Op1 := fun _ k E n z L S M => match S with
  | b :: a :: S => gd (isI a) (gd (isI b) (biK g a b fun r => k E n z L (r :: S) M))
  | _ => none
noncomputable def op_un (g : Nat → Nat) : Op1 := fun _ k E n z L S M => match S with
  | a :: S => gd (isI a) (unK g a fun r => k E n z L (r :: S) M)
  | _ => none
noncomputable def op_dup : Op1 := fun _ k E n z L S M => match S with
  | a :: S => gd (Bool.rec true false (isC2 a)) (k E n z L (a :: a :: S) M)
  | _ => none
noncomputable def op_dup2 : Op1 := fun _ k E n z L S M => match S with
  | a :: b :: S => gd (Bool.rec true false (isC2 a)) (gd (Bool.rec true false (isC2 b)) (k E n z L (a :: b :: a :: b :: S) M))
  | _ => none
noncomputable def op_pop : Op1 := fun _ k E n z L S M => match S with
  | a :: S => gd (Bool.rec true false (isC2 a)) (k E n z L S M)
  | _ => none
noncomputable def toN (x : Int32) : Nat := x.toUInt32.toNat
noncomputable def toNL (x : Int64) : Nat := x.toUInt64.toNat
noncomputable def nthE (E : Env9) : Nat → Nat × Nat := List.rec (motive := fun _ => Nat → Nat × Nat) (fun _ => (0, 4294967295)) (fun x _ ih i => Nat.rec x (fun j _ => ih j) i) E
noncomputable def nstE (E : Env9) : Nat → Nat × Nat → Env9 := List.rec (motive := fun _ => Nat → Nat × Nat → Env9) (fun _ _ => []) (fun x t ih i v => Nat.rec (v :: t) (fun j _ => x :: ih j v) i) E
/-- the remainder by 3 of the script's number 1 stands at 6 -/
noncomputable def rem6 (E : Env9) (a : AV) (y : Nat) : Bool := match a with
  | .inr (.inr (.inr (.inl (some o)))) => Bool.rec false (Bool.rec false (Bool.rec false (Nat.beq (nthE E 4000).1 (nthE E 4000).2) (Nat.beq y 3)) (Nat.beq o.2 0)) (Nat.beq o.1 1)
  | _ => false
noncomputable def op_irem : Op1 := fun _ k E n z L S M => match S with
  | b :: a :: S => gd (isI a) (match b with
    | .inl y => gd (Nat.ble 1 (y % 4294967296)) (Bool.rec (biK (fun x y => toN (nI x - nI x / nI y * nI y)) a (.inl y) fun r => k E n z L (r :: S) M) (k E n z L (vI (bi (nthE E 4000).1) :: S) M) (rem6 E a y))
    | _ => none)
  | _ => none
noncomputable def op_i2l : Op1 := fun _ k E n z L S M => match S with
  | .inl x :: S => fN (toNL (nI x).toInt64) fun r => k E n z L (vJ r :: S) M
  | .inr (.inr (.inr (.inl (some o)))) :: S => gd (Nat.ble (o.1 + 1) 16) (fN (o.1 + 16 * o.2) fun r => k E n z L (vL r :: S) M)
  | _ => none
noncomputable def op_l2i : Op1 := fun _ k E n z L S M => match S with
  | .inr (.inr (.inl x)) :: S => fN (toN (lN x).toInt32) fun r => k E n z L (vI r :: S) M
  | _ => none
noncomputable def op_lbin (g : Nat → Nat → Nat) : Op1 := fun _ k E n z L S M => match S with
  | .inr (.inr (.inl y)) :: .inr (.inr (.inl x)) :: S => fN (g x y) fun r => k E n z L (vJ r :: S) M
  | _ => none
noncomputable def op_lsh (g : Nat → Nat → Nat) : Op1 := fun _ k E n z L S M => match S with
  | .inl y :: .inr (.inr (.inl x)) :: S => fN (g x y) fun r => k E n z L (vJ r :: S) M
  | _ => none
noncomputable def app (a b : OR) : OR := match a with
  | some x => (match b with | some y => some (x ++ y) | none => none)
  | none => none
/-- the script's number i against a number (counted from the least int on): smaller, equal, greater -/
noncomputable def fork3 (E : Env9) (i c : Nat) (kl ke kg : Env9 → OR) : OR :=
  fN (nthE E i).1 fun lo => fN (nthE E i).2 fun hi =>
    app (Bool.rec (some []) (kl (nstE E i (lo, Bool.rec (c - 1) hi (Nat.ble hi (c - 1))))) (Nat.ble (lo + 1) c))
      (app (Bool.rec (some []) (Bool.rec (some []) (ke (nstE E i (c, c))) (Nat.ble c hi)) (Nat.ble lo c))
        (Bool.rec (some []) (kg (nstE E i (Bool.rec (c + 1) lo (Nat.ble (c + 1) lo), hi))) (Nat.ble (c + 1) hi)))
noncomputable def c3 (u w : Nat) (a b c : OR) : OR := Bool.rec (Bool.rec c b (Nat.beq u w)) a (Nat.ble (u + 1) w)
noncomputable def cmp3 (a b : AV) (E : Env9) (kl ke kg : Env9 → OR) : OR := match a, b with
  | .inl x, .inl y => c3 (bi x) (bi y) (kl E) (ke E) (kg E)
  | .inr (.inr (.inr (.inl (some o)))), .inl y => gd (Nat.beq o.2 0) (fork3 E o.1 (bi y) kl ke kg)
  | .inl y, .inr (.inr (.inr (.inl (some o)))) => gd (Nat.beq o.2 0) (fork3 E o.1 (bi y) kg ke kl)
  | .inr (.inr (.inr (.inl (some o)))), .inr (.inr (.inr (.inl (some o')))) => gd (Nat.beq o.1 o'.1) (gd (Nat.beq o.2 o'.2) (ke E))
  | _, _ => none
noncomputable def op_lcmp : Op1 := fun _ k E n z L S M => match S with
  | .inr (.inr (.inl y)) :: .inr (.inr (.inl x)) :: S => fN (toN (lg_cmp (lN x) (lN y))) fun r => k E n z L (vI r :: S) M
  | .inr (.inr (.inl y)) :: .inr (.inr (.inr (.inr (.inl i)))) :: S =>
    fN (y % 4294967296) fun w => gd (Nat.ble (i + 1) 16) (gd (Nat.beq (toNL (nI w).toInt64) y) (fork3 E i (bi w) (fun E => k E n z L (vI 4294967295 :: S) M) (fun E => k E n z L (vI 0 :: S) M) (fun E => k E n z L (vI 1 :: S) M)))
  | .inr (.inr (.inr (.inr (.inl i')))) :: .inr (.inr (.inr (.inr (.inl i)))) :: S => gd (Nat.beq i i') (k E n z L (vI 0 :: S) M)
  | _ => none
noncomputable def op_getf (c i : Nat) : Op1 := fun _ k E n z L S M => match S with
  | .inr (.inl a) :: S => (match tget 9 M a with
    | .inl q => gd (Nat.beq q.1 c) (gd (Nat.ble (i + 1) q.2.length) (k E n z L (nth q.2 i :: S) M))
    | _ => none)
  | _ => none
noncomputable def op_putf (f : AV → Bool) (c i : Nat) : Op1 := fun _ k E n z L S M => match S with
  | v :: .inr (.inl a) :: S => gd (f v) (match tget 9 M a with
    | .inl q => gd (Nat.beq q.1 c) (gd (Nat.ble (i + 1) q.2.length) (k E n z L S (tset 9 M a (.inl (q.1, nst q.2 i v)))))
    | _ => none)
  | _ => none
noncomputable def pget (p j : Nat) : Nat := (p >>> (32 * j)) % 4294967296
noncomputable def pset (p j x : Nat) : Nat := p ^^^ ((pget p j ^^^ (x % 4294967296)) <<< (32 * j))
noncomputable def aget (p : Nat) (ov : List (Nat × AV)) (j : Nat) : AV := List.rec (vI (pget p j)) (fun q _ ih => Bool.rec ih q.2 (Nat.beq q.1 j)) ov
noncomputable def orm (ov : List (Nat × AV)) (j : Nat) : List (Nat × AV) := List.rec (motive := fun _ => List (Nat × AV)) [] (fun q _ ih => Bool.rec (q :: ih) ih (Nat.beq q.1 j)) ov
noncomputable def op_iald (t : Nat) : Op1 := fun _ k E n z L S M => match S with
  | .inl j :: .inr (.inl a) :: S => (match tget 9 M a with
    | .inr (.inl q) => gd (Nat.beq q.1 t) (gd (Nat.ble (j + 1) q.2.1) (k E n z L (aget q.2.2.1 q.2.2.2 j :: S) M))
    | _ => none)
  | _ => none
noncomputable def aset (q : Nat × Nat × Nat × List (Nat × AV)) (j : Nat) (v : AV) (f : Cel → OR) : OR := match v with
  | .inl x => fN (pset q.2.2.1 j x) fun p => f (cI q.1 q.2.1 p (orm q.2.2.2 j))
  | v => f (cI q.1 q.2.1 q.2.2.1 ((j, v) :: q.2.2.2))
noncomputable def op_iast : Op1 := fun _ k E n z L S M => match S with
  | v :: .inl j :: .inr (.inl a) :: S => gd (isI v) (match tget 9 M a with
    | .inr (.inl q) => gd (Nat.beq q.1 0) (gd (Nat.ble (j + 1) q.2.1) (aset q j v fun c => k E n z L S (tset 9 M a c)))
    | _ => none)
  | _ => none
noncomputable def op_bast : Op1 := fun _ k E n z L S M => match S with
  | v :: .inl j :: .inr (.inl a) :: S => gd (isI v) (match tget 9 M a with
    | .inr (.inl q) => gd (Nat.ble (j + 1) q.2.1) (Bool.rec
        (gd (Nat.beq q.1 1) (unK (fun x => toN (nI x).toInt8.toInt32) v fun v => aset q j v fun c => k E n z L S (tset 9 M a c)))
        (gd (isZ v) (aset q j v fun c => k E n z L S (tset 9 M a c))) (Nat.beq q.1 2))
    | _ => none)
  | _ => none
noncomputable def op_aald : Op1 := fun _ k E n z L S M => match S with
  | .inl j :: .inr (.inl a) :: S => (match tget 9 M a with
    | .inr (.inr (.inl q)) => gd (Nat.ble (j + 1) q.2.length) (k E n z L (nth q.2 j :: S) M)
    | _ => none)
  | _ => none
noncomputable def op_aast (c : Nat) : Op1 := fun _ k E n z L S M => match S with
  | .inr (.inl v) :: .inl j :: .inr (.inl a) :: S => (match tget 9 M a, tget 9 M v with
    | .inr (.inr (.inl q)), .inl o => gd (Nat.beq q.1 c) (gd (Nat.beq o.1 c) (gd (Nat.ble (j + 1) q.2.length) (k E n z L S (tset 9 M a (.inr (.inr (.inl (q.1, nst q.2 j (vR v)))))))))
    | _, _ => none)
  | _ => none
noncomputable def op_lald : Op1 := fun _ k E n z L S M => match S with
  | .inl j :: .inr (.inl a) :: S => (match tget 9 M a with
    | .inr (.inr (.inr q)) => gd (Nat.ble (j + 1) q.length) (k E n z L (nth q j :: S) M)
    | _ => none)
  | _ => none
noncomputable def op_last : Op1 := fun _ k E n z L S M => match S with
  | v :: .inl j :: .inr (.inl a) :: S => gd (isJ v) (match tget 9 M a with
    | .inr (.inr (.inr q)) => gd (Nat.ble (j + 1) q.length) (k E n z L S (tset 9 M a (.inr (.inr (.inr (nst q j v))))))
    | _ => none)
  | _ => none
noncomputable def op_alen : Op1 := fun _ k E n z L S M => match S with
  | .inr (.inl a) :: S => (match tget 9 M a with
    | .inr (.inl q) => k E n z L (vI q.2.1 :: S) M
    | _ => none)
  | _ => none
noncomputable def op_new (B : Nat) (w : Nat) (c : Cel) : Op1 := fun _ k E n z L S M =>
  gd (Nat.ble (n + 1) 512) (gd (Nat.ble (z + w + 1) B) (fN (n + 1) fun n' => fN (z + w + 1) fun z' => k E n' z' L (vR n :: S) (tset 9 M n c)))
noncomputable def op_newa (B : Nat) (f : Nat → Cel) : Op1 := fun _ k E n z L S M => match S with
  | .inl N :: S => gd (Nat.ble N 100000) (gd (Nat.ble (n + 1) 512) (gd (Nat.ble (z + N + 1) B) (fN (n + 1) fun n' => fN (z + N + 1) fun z' => k E n' z' L (vR n :: S) (tset 9 M n (f N)))))
  | _ => none
noncomputable def repA (v : AV) (N : Nat) : List AV := Nat.rec [] (fun _ ih => v :: ih) N
noncomputable def op_oinit : Op1 := fun _ k E n z L S M => match S with
  | .inr (.inl _) :: S => (match S with | [] => k E n z L [] M | _ => none)
  | _ => none
/-- the script: its number at a known place; its length -/
noncomputable def op_sld (N : Nat) : Op1 := fun _ k E n z L S M => match S with
  | .inl j :: .inr (.inr (.inr (.inr (.inr (.inl w))))) :: S => gd (Nat.beq w 2) (gd (Nat.ble (j + 1) N) (Bool.rec (k E n z L (vX (some (j, 0)) :: S) M) (k E n z L (vI (bi (nthE E j).1) :: S) M) (Nat.beq (nthE E j).1 (nthE E j).2)))
  | _ => none
noncomputable def op_slen (N : Nat) : Op1 := fun _ k E n z L S M => match S with
  | .inr (.inr (.inr (.inr (.inr (.inl w))))) :: S => gd (Nat.beq w 2) (k E n z L (vI N :: S) M)
  | _ => none
/-- of a text: its bytes, its coder; a static that is one; one of which only this is known: a reference or null; the length of a text's bytes; one of them -/
noncomputable def op_tval : Op1 := fun _ k E n z L S M => match S with
  | .inr (.inr (.inr (.inr (.inr (.inl w))))) :: S => gd (Nat.ble 4 w) (gd (Nat.ble (w + 1) 31) (k E n z L (vW (w + 1000) :: S) M))
  | _ => none
noncomputable def op_tcod : Op1 := fun _ k E n z L S M => match S with
  | .inr (.inr (.inr (.inr (.inr (.inl w))))) :: S => gd (Nat.ble 4 w) (gd (Nat.ble (w + 1) 31) (k E n z L (vI 0 :: S) M))
  | _ => none
noncomputable def nthN (l : List Nat) (d : Nat) : Nat → Nat := List.rec (motive := fun _ => Nat → Nat) (fun _ => d) (fun x _ ih i => Nat.rec x (fun j _ => ih j) i) l
noncomputable def nthL (l : List (List Nat)) : Nat → List Nat := List.rec (motive := fun _ => Nat → List Nat) (fun _ => []) (fun x _ ih i => Nat.rec x (fun j _ => ih j) i) l
noncomputable def op_tlen (T : List (List Nat)) : Op1 := fun _ k E n z L S M => match S with
  | .inr (.inr (.inr (.inr (.inr (.inl w))))) :: S => gd (Nat.ble 1004 w) (gd (Nat.ble (w + 1) 1031) (fN (nthL T (w - 1004)).length fun r => k E n z L (vI r :: S) M))
  | _ => none
noncomputable def op_tbal (T : List (List Nat)) : Op1 := fun _ k E n z L S M => match S with
  | .inl j :: .inr (.inr (.inr (.inr (.inr (.inl w))))) :: S => gd (Nat.ble 1004 w) (gd (Nat.ble (w + 1) 1031) (gd (Nat.ble (j + 1) (nthL T (w - 1004)).length) (fN (nthN (nthL T (w - 1004)) 0 j) fun r => k E n z L (vI r :: S) M)))
  | _ => none
noncomputable def gT (as : List AV) (_ : Mem) : Bool := match as with
  | .inr (.inr (.inr (.inr (.inr (.inl w))))) :: _ => Bool.rec false (Nat.ble (w + 1) 31) (Nat.ble 4 w)
  | _ => false
noncomputable def op_i2d : Op1 := fun _ k E n z L S M => match S with
  | .inl x :: S => k E n z L (vD (FP.i2d (nI x)).toNat :: S) M
  | _ => none
noncomputable def op_i2f : Op1 := fun _ k E n z L S M => match S with
  | .inl x :: S => k E n z L (vF (FP.i2f (nI x)).toNat :: S) M
  | _ => none
noncomputable def op_f2d : Op1 := fun _ k E n z L S M => match S with
  | .inr (.inr (.inr (.inr (.inr (.inr (.inl x)))))) :: S => gd (Nat.ble ((FP.f2d (UInt32.ofNat x) &&& 0x7fffffffffffffff).toNat) 9218868437227405312) (k E n z L (vD (FP.f2d (UInt32.ofNat x)).toNat :: S) M)
  | _ => none
noncomputable def op_ddiv : Op1 := fun _ k E n z L S M => match S with
  | .inr (.inr (.inr (.inr (.inr (.inr (.inr y)))))) :: .inr (.inr (.inr (.inr (.inr (.inr (.inr x)))))) :: S => gd (Nat.ble ((FP.ddiv (UInt64.ofNat x) (UInt64.ofNat y) &&& 0x7fffffffffffffff).toNat) 9218868437227405312) (k E n z L (vD (FP.ddiv (UInt64.ofNat x) (UInt64.ofNat y)).toNat :: S) M)
  | _ => none
noncomputable def op_fdiv : Op1 := fun _ k E n z L S M => match S with
  | .inr (.inr (.inr (.inr (.inr (.inr (.inl y)))))) :: .inr (.inr (.inr (.inr (.inr (.inr (.inl x)))))) :: S => gd (Nat.ble ((FP.fdiv (UInt32.ofNat x) (UInt32.ofNat y) &&& 0x7fffffff).toNat) 2139095040) (k E n z L (vF (FP.fdiv (UInt32.ofNat x) (UInt32.ofNat y)).toNat :: S) M)
  | _ => none
noncomputable def op_dcmp (o : CmpOp) : Op1 := fun _ k E n z L S M => match S with
  | .inr (.inr (.inr (.inr (.inr (.inr (.inr y)))))) :: .inr (.inr (.inr (.inr (.inr (.inr (.inr x)))))) :: S => fN (toN (Op.cmpValue (FP.dcmp (UInt64.ofNat x) (UInt64.ofNat y)) o)) fun r => k E n z L (vI r :: S) M
  | _ => none
noncomputable def pcpy (p q sp dp N : Nat) : Nat := Nat.rec q (fun j ih => pset ih (dp + j) (pget p (sp + j))) N
noncomputable def catS (S : List AV) : Nat := List.rec 0 (fun v _ ih => Bool.rec (ih + 1) (ih + 2) (isC2 v)) S
noncomputable def op_copy : Op1 := fun _ k E n z L S M => match S with
  | .inl N :: .inl dp :: .inr (.inl b) :: .inl sp :: .inr (.inl a) :: S => (match tget 9 M a, tget 9 M b with
    | .inr (.inl u), .inr (.inl w) => gd (Nat.beq u.1 0) (gd (Nat.beq w.1 0) (gd (Nat.ble (sp + N) u.2.1) (gd (Nat.ble (dp + N) w.2.1) (match u.2.2.2, w.2.2.2 with
      | [], [] => gd (Nat.ble (catS S) 8) (gd (Nat.ble N 100000) (fN (pcpy u.2.2.1 w.2.2.1 sp dp N) fun r => k E n z L S (tset 9 M b (cI 0 w.2.1 r []))))
      | _, _ => none))))
    | _, _ => none)
  | _ => none
noncomputable def spl (na : Nat) : List AV → List AV → List AV × List AV := Nat.rec (motive := fun _ => List AV → List AV → List AV × List AV) (fun acc S => (acc, S)) (fun _ ih acc S => match S with | v :: S => ih (v :: acc) S | [] => ([], [])) na
noncomputable def joinR (f : Res → OR) (rs : List Res) : OR := List.rec (some []) (fun r _ ih => app (f r) ih) rs
noncomputable def gV (ci : Nat) (as : List AV) (M : Mem) : Bool := match as with
  | .inr (.inl k) :: _ => (match tget 9 M k with | .inl q => Nat.beq q.1 ci | _ => false)
  | _ => false
noncomputable def gI (as : List AV) (_ : Mem) : Bool := match as with
  | .inr (.inl _) :: _ => true
  | _ => false
noncomputable def gS (_ : List AV) (_ : Mem) : Bool := true
/-- a call of y with na arguments; bud: what it may make -/
noncomputable def op_call (g : List AV → Mem → Bool) (y na bud B : Nat) : Op1 := fun call k E n z L S M =>
  gd (Nat.ble na S.length) (gd (Nat.ble (catS (spl na [] S).2) 8) (gd (Nat.ble (z + bud) B) (gd (g (spl na [] S).1 M) (match call y E n (spl na [] S).1 M with
    | some rs => joinR (fun r => match r with
      | ((0, _), E', v, _, _, M', n', _) => fN n' fun n' => k E' n' (z + bud) L (v :: (spl na [] S).2) M'
      | ((1, _), E', _, _, _, M', n', _) => fN n' fun n' => k E' n' (z + bud) L (spl na [] S).2 M'
      | _ => none) rs
    | none => none))))
/-- .. of a method that may throw: what it throws leaves this one too -/
noncomputable def op_callX (g : List AV → Mem → Bool) (y na bud B : Nat) : Op1 := fun call k E n z L S M =>
  gd (Nat.ble na S.length) (gd (Nat.ble (catS (spl na [] S).2) 8) (gd (Nat.ble (z + bud) B) (gd (g (spl na [] S).1 M) (match call y E n (spl na [] S).1 M with
    | some rs => joinR (fun r => match r with
      | ((0, _), E', v, _, _, M', n', _) => fN n' fun n' => k E' n' (z + bud) L (v :: (spl na [] S).2) M'
      | ((1, _), E', _, _, _, M', n', _) => fN n' fun n' => k E' n' (z + bud) L (spl na [] S).2 M'
      | ((2, x), E', _, _, _, M', n', _) => fN n' fun n' => some [((2, x), E', vW 3, [], [], M', n', z + bud)]
      | _ => none) rs
    | none => none))))
noncomputable def op_fail : Op1 := fun _ _ _ _ _ _ _ _ => none
/-- a block ends: where it goes on -/
abbrev Jmp : Type := Nat → KK
abbrev Trm : Type := Call → Jmp → KK
noncomputable def tm_fail : Trm := fun _ _ _ _ _ _ _ _ => none
noncomputable def tm_goto (t : Nat) : Trm := fun _ j => j t
noncomputable def tm_icmp (tl te tg : Nat) : Trm := fun _ j E n z L S M => match S with
  | b :: a :: S => cmp3 a b E (fun E => j tl E n z L S M) (fun E => j te E n z L S M) (fun E => j tg E n z L S M)
  | _ => none
noncomputable def tm_if (tl te tg : Nat) : Trm := fun _ j E n z L S M => match S with
  | a :: S => cmp3 a (vI 0) E (fun E => j tl E n z L S M) (fun E => j te E n z L S M) (fun E => j tg E n z L S M)
  | _ => none
noncomputable def tm_switch (d : Nat) (ts : List Nat) : Trm := fun _ j E n z L S M => match S with
  | .inl x :: S => gd (Nat.ble x 4294967295) (j (nthN ts d x) E n z L S M)
  | _ => none
noncomputable def tm_ret (f : AV → Bool) (B : Nat) : Trm := fun _ _ E n z _ S M => match S with
  | v :: S => (match S with | [] => gd (f v) (gd (Nat.ble z B) (some [((0, 0), E, v, [], [], M, n, z)])) | _ => none)
  | _ => none
noncomputable def tm_vret (B : Nat) : Trm := fun _ _ E n z _ S M => match S with | _ :: _ => none | [] => gd (Nat.ble z B) (some [((1, 0), E, vW 3, [], [], M, n, z)])
noncomputable def tm_throw (x B : Nat) : Trm := fun _ _ E n z _ S M => match S with
  | [] => gd (Nat.ble (z + 7) B) (some [((2, x), E, vW 3, [], [], M, n, z)])
  | _ => none
noncomputable def hcase (h : Nat) (f : Nat → OR) : OR := Nat.rec none (fun b _ => f b) h
/-- a call whose thrown ends go on at a block of this method: hd gives the block by what was thrown -/
noncomputable def tm_callH (g : List AV → Mem → Bool) (y na bud B t : Nat) (hd : List Nat) : Trm := fun call j E n z L S M =>
  gd (Nat.ble na S.length) (gd (Nat.ble (catS (spl na [] S).2) 8) (gd (Nat.ble (z + bud) B) (gd (g (spl na [] S).1 M) (match call y E n (spl na [] S).1 M with
    | some rs => joinR (fun r => match r with
      | ((0, _), E', v, _, _, M', n', _) => fN n' fun n' => j t E' n' (z + bud) L (v :: (spl na [] S).2) M'
      | ((1, _), E', _, _, _, M', n', _) => fN n' fun n' => j t E' n' (z + bud) L (spl na [] S).2 M'
      | ((2, x), E', _, _, _, M', n', _) => fN n' fun n' => hcase (nthN hd 0 x) fun b => j b E' n' (z + bud) L [vW 1] M'
      | _ => none) rs
    | none => none))))
noncomputable def tm_cut (q : Nat) : Trm := fun _ _ E n z L S M => some [((3, q), E, vW 3, S, L, M, n, z)]
noncomputable def runB (c : Call) (j : Jmp) (t : Trm) (l : List Op1) : KK := List.rec (motive := fun _ => KK) (t c j) (fun o _ ih => o c ih) l
abbrev Blk : Type := List Op1 × Trm
noncomputable def runF (c : Call) (d : Nat) (code : TrT Blk d) (f : Nat) : Jmp := Nat.rec (motive := fun _ => Jmp) (fun _ _ _ _ _ _ _ => none) (fun _ ih b => runB c ih (tget d code b).2 (tget d code b).1) f
end
section
/-! what the small machine's values and memories say of the real ones -/
/-- the script's numbers; the texts' addresses; the script's address -/
abbrev Gam : Type := (Nat → Int32) × (Nat → Nat) × Nat
def cz (G : Gam) (ρ : List Nat) (a : AV) (v : Value) : Prop := match a with
  | .inl n => v = .int (nI n)
  | .inr (.inl k) => ∃ q, ρ[k]? = some q ∧ v = .ref q
  | .inr (.inr (.inl n)) => v = .long (lN n)
  | .inr (.inr (.inr (.inl none))) => ∃ x, v = .int x
  | .inr (.inr (.inr (.inl (some o)))) => v = .int (G.1 o.1 + nI o.2)
  | .inr (.inr (.inr (.inr (.inl i)))) => v = .long (G.1 (i % 16) + nI (i / 16)).toInt64
  | .inr (.inr (.inr (.inr (.inr (.inl w))))) => (w = 0 ∧ v = .null) ∨ (w = 1 ∧ ∃ q, v = .ref q) ∨ (w = 2 ∧ v = .ref G.2.2) ∨ (4 ≤ w ∧ w < 5000 ∧ v = .ref (G.2.1 (w - 4))) ∨ (5000 ≤ w ∧ (v = .null ∨ ∃ q, v = .ref q))
  | .inr (.inr (.inr (.inr (.inr (.inr (.inl n)))))) => v = .float (UInt32.ofNat n)
  | .inr (.inr (.inr (.inr (.inr (.inr (.inr n)))))) => v = .double (UInt64.ofNat n)
def czs (G : Gam) (ρ : List Nat) : List AV → List Value → Prop
  | [], [] => True
  | a :: l, v :: w => cz G ρ a v ∧ czs G ρ l w
  | _, _ => False
theorem pre_get {ρ ρ' : List Nat} (h : ρ <+: ρ') {k q : Nat} (hk : ρ[k]? = some q) : ρ'[k]? = some q := by
  obtain ⟨t, rfl⟩ := h
  have hl := (List.getElem?_eq_some_iff.mp hk).1
  rw [List.getElem?_append_left hl]
  exact hk
theorem cz_mono {G : Gam} {ρ ρ' : List Nat} (h : ρ <+: ρ') {a : AV} {v : Value} (hc : cz G ρ a v) : cz G ρ' a v := by
  rcases a with n | k | n | o | i | w | n | n
  · exact hc
  · obtain ⟨q, h1, h2⟩ := hc; exact ⟨q, pre_get h h1, h2⟩
  · exact hc
  · cases o <;> exact hc
  · exact hc
  · exact hc
  · exact hc
  · exact hc
theorem czs_mono {G : Gam} {ρ ρ' : List Nat} (h : ρ <+: ρ') : ∀ {l : List AV} {w : List Value}, czs G ρ l w → czs G ρ' l w := by
  intro l
  induction l with
  | nil => intro w hc; cases w <;> exact hc
  | cons a l ih =>
    intro w hc
    cases w with
    | nil => exact hc
    | cons v w => exact ⟨cz_mono h hc.1, ih hc.2⟩
theorem czs_len {G : Gam} {ρ : List Nat} : ∀ {l : List AV} {w : List Value}, czs G ρ l w → l.length = w.length := by
  intro l
  induction l with
  | nil => intro w hc; cases w with
    | nil => rfl
    | cons v w => exact hc.elim
  | cons a l ih =>
    intro w hc
    cases w with
    | nil => exact hc.elim
    | cons v w => rw [List.length_cons, List.length_cons, ih hc.2]
theorem czs_cons {G : Gam} {ρ : List Nat} {a : AV} {l : List AV} {w : List Value} (h : czs G ρ (a :: l) w) : ∃ v w', w = v :: w' ∧ cz G ρ a v ∧ czs G ρ l w' := by
  cases w with
  | nil => exact h.elim
  | cons v w' => exact ⟨v, w', rfl, h.1, h.2⟩
theorem czs_get {G : Gam} {ρ : List Nat} : ∀ {l : List AV} {w : List Value}, czs G ρ l w → ∀ {k : Nat}, k < l.length → ∃ v, w[k]? = some v ∧ cz G ρ (nth l k) v := by
  intro l
  induction l with
  | nil => intro w hc k hk; cases hk
  | cons a l ih =>
    intro w hc k hk
    obtain ⟨v, w', rfl, h1, h2⟩ := czs_cons hc
    cases k with
    | zero => exact ⟨v, rfl, h1⟩
    | succ k =>
      obtain ⟨v', g1, g2⟩ := ih h2 (k := k) (by simpa using hk)
      exact ⟨v', by rw [List.getElem?_cons_succ]; exact g1, g2⟩
theorem czs_set {G : Gam} {ρ : List Nat} {a : AV} {v : Value} (hv : cz G ρ a v) : ∀ {l : List AV} {w : List Value}, czs G ρ l w → ∀ (k : Nat), czs G ρ (nst l k a) (w.set k v) := by
  intro l
  induction l with
  | nil => intro w hc k; cases w with
    | nil => exact hc
    | cons v w => exact hc.elim
  | cons b l ih =>
    intro w hc k
    obtain ⟨u, w', rfl, h1, h2⟩ := czs_cons hc
    cases k with
    | zero => exact ⟨hv, h2⟩
    | succ k => exact ⟨h1, ih h2 k⟩
theorem cz_isI {G : Gam} {ρ : List Nat} {a : AV} {v : Value} (hc : cz G ρ a v) (h : isI a = true) : ∃ x, v = .int x := by
  rcases a with n | k | n | o | i | w | n | n
  · exact ⟨_, hc⟩
  · cases h
  · cases h
  · cases o with
    | none => exact hc
    | some o => exact ⟨_, hc⟩
  · cases h
  · cases h
  · cases h
  · cases h
theorem cz_isJ {G : Gam} {ρ : List Nat} {a : AV} {v : Value} (hc : cz G ρ a v) (h : isJ a = true) : ∃ x, v = .long x := by
  rcases a with n | k | n | o | i | w | n | n
  · cases h
  · cases h
  · exact ⟨_, hc⟩
  · cases h
  · exact ⟨_, hc⟩
  · cases h
  · cases h
  · cases h
theorem cz_isD {G : Gam} {ρ : List Nat} {a : AV} {v : Value} (hc : cz G ρ a v) (h : isD a = true) : ∃ x, v = .double x := by
  rcases a with n | k | n | o | i | w | n | n
  · cases h
  · cases h
  · cases h
  · cases h
  · cases h
  · cases h
  · cases h
  · exact ⟨_, hc⟩
theorem cz_isA {G : Gam} {ρ : List Nat} {a : AV} {v : Value} (hc : cz G ρ a v) (h : isA a = true) : v = .null ∨ ∃ q, v = .ref q := by
  rcases a with n | k | n | o | i | w | n | n
  · cases h
  · obtain ⟨q, -, h2⟩ := hc; exact Or.inr ⟨q, h2⟩
  · cases h
  · cases h
  · cases h
  · rcases hc with ⟨-, h1⟩ | ⟨-, q, h1⟩ | ⟨-, h1⟩ | ⟨-, -, h1⟩ | ⟨-, h1⟩
    · exact Or.inl h1
    · exact Or.inr ⟨q, h1⟩
    · exact Or.inr ⟨_, h1⟩
    · exact Or.inr ⟨_, h1⟩
    · exact h1
  · cases h
  · cases h
theorem cz_isZ {G : Gam} {ρ : List Nat} {a : AV} {v : Value} (hc : cz G ρ a v) (h : isZ a = true) : ∃ k, k ≤ 1 ∧ a = .inl k ∧ v = .int (nI k) := by
  rcases a with n | k | n | o | i | w | n | n
  · exact ⟨n, Nat.le_of_ble_eq_true h, rfl, hc⟩
  all_goals cases h
theorem cz_c1 {G : Gam} {ρ : List Nat} {a : AV} {v : Value} (hc : cz G ρ a v) (h : isC2 a = false) : v.category = 1 := by
  rcases a with n | k | n | o | i | w | n | n
  · rw [show v = _ from hc]; rfl
  · obtain ⟨q, -, h2⟩ := hc; rw [h2]; rfl
  · cases h
  · cases o with
    | none => obtain ⟨x, h2⟩ := hc; rw [h2]; rfl
    | some o => rw [show v = _ from hc]; rfl
  · cases h
  · rcases hc with ⟨-, h1⟩ | ⟨-, q, h1⟩ | ⟨-, h1⟩ | ⟨-, -, h1⟩ | ⟨-, h1 | ⟨q, h1⟩⟩ <;> rw [h1] <;> rfl
  · rw [show v = _ from hc]; rfl
  · cases h
theorem cat_le2 (v : Value) : v.category ≤ 2 := by cases v <;> simp [Value.category]
theorem catS_cons (a : AV) (l : List AV) : catS (a :: l) = if isC2 a = true then catS l + 2 else catS l + 1 := by
  show (Bool.rec (catS l + 1) (catS l + 2) (isC2 a) : Nat) = _
  cases isC2 a <;> rfl
theorem czs_cat {G : Gam} {ρ : List Nat} : ∀ {l : List AV} {w : List Value}, czs G ρ l w → (w.map fun v => v.category).sum ≤ catS l := by
  intro l
  induction l with
  | nil => intro w hc; cases w with
    | nil => exact Nat.le_refl _
    | cons v w => exact hc.elim
  | cons a l ih =>
    intro w hc
    obtain ⟨u, w', rfl, h1, h2⟩ := czs_cons hc
    have h3 := ih h2
    rw [List.map_cons, List.sum_cons, catS_cons]
    by_cases h : isC2 a = true
    · rw [if_pos h]
      have := cat_le2 u
      omega
    · rw [if_neg h]
      have := cz_c1 h1 (by simpa using h)
      omega
def tyOf (t : Nat) : FieldType := match t with | 0 => .int | 1 => .byte | _ => .boolean
def tyK (s : State) (cA : ClassId) (ty : FieldType) : Prop := ArrOfT s cA ty ∧ va_RA s cA ty
def celR (s : State) (G : Gam) (ρ : List Nat) (c : Cel) (e : va_E) : Prop := match c with
  | .inl q => ∃ vs, e = .inr (q.1, vs) ∧ czs G ρ q.2 vs
  | .inr (.inl q) => ∃ (cA : ClassId) (f : Nat → Int32), e = .inl (cA, q.2.1, .inl f) ∧ tyK s cA (tyOf q.1) ∧ q.2.1 ≤ 100000 ∧ q.1 ≤ 2 ∧ ∀ j, j < q.2.1 → cz G ρ (aget q.2.2.1 q.2.2.2 j) (.int (f j))
  | .inr (.inr (.inl q)) => q.2 = [] ∨ ∃ (cA : ClassId) (f : Nat → Option Nat) (r : vw_C), e = .inl (cA, q.2.length, .inr (.inr (.inr (.inr f)))) ∧ vwCl[q.1]? = some r ∧ tyK s cA (.object r.1) ∧ q.2.length ≤ 100000 ∧ ∀ j, j < q.2.length → cz G ρ (nth q.2 j) (va_rf (f j))
  | .inr (.inr (.inr xs)) => ∃ (cA : ClassId) (f : Nat → Int64), e = .inl (cA, xs.length, .inr (.inl f)) ∧ tyK s cA .long ∧ xs.length ≤ 100000 ∧ ∀ j, j < xs.length → cz G ρ (nth xs j) (.long (f j))
theorem celR_mono {s : State} {G : Gam} {ρ ρ' : List Nat} (h : ρ <+: ρ') {c : Cel} {e : va_E} (hc : celR s G ρ c e) : celR s G ρ' c e := by
  rcases c with q | q | q | xs
  · obtain ⟨vs, h1, h2⟩ := hc; exact ⟨vs, h1, czs_mono h h2⟩
  · obtain ⟨cA, f, h1, h2, h3, h4, h5⟩ := hc; exact ⟨cA, f, h1, h2, h3, h4, fun j hj => cz_mono h (h5 j hj)⟩
  · rcases hc with hc | ⟨cA, f, r, h1, h2, h3, h4, h5⟩
    · exact Or.inl hc
    · exact Or.inr ⟨cA, f, r, h1, h2, h3, h4, fun j hj => cz_mono h (h5 j hj)⟩
  · obtain ⟨cA, f, h1, h2, h3, h4⟩ := hc; exact ⟨cA, f, h1, h2, h3, fun j hj => cz_mono h (h4 j hj)⟩
theorem tyK_moved {u U : State} (hvm : u.vm.Alike U.vm) {cA : ClassId} {ty : FieldType} (h : tyK u cA ty) : tyK U cA ty := ⟨arrOfT_moved hvm h.1, h.2.moved hvm⟩
theorem celR_moved {u U : State} (hvm : u.vm.Alike U.vm) {G : Gam} {ρ : List Nat} {c : Cel} {e : va_E} (hc : celR u G ρ c e) : celR U G ρ c e := by
  rcases c with q | q | q | xs
  · exact hc
  · obtain ⟨cA, f, h1, h2, h3⟩ := hc; exact ⟨cA, f, h1, tyK_moved hvm h2, h3⟩
  · rcases hc with hc | ⟨cA, f, r, h1, h2, h3, h4⟩
    · exact Or.inl hc
    · exact Or.inr ⟨cA, f, r, h1, h2, tyK_moved hvm h3, h4⟩
  · obtain ⟨cA, f, h1, h2, h3⟩ := hc; exact ⟨cA, f, h1, tyK_moved hvm h2, h3⟩
def memR (D : va_G) (s : State) (G : Gam) (A : Nat → Prop) (ρ : List Nat) (n : Nat) (M : Mem) (H : Heap) : Prop :=
  ∃ ws : va_W, ws.length = n ∧ ρ.length = n ∧ n ≤ 512 ∧ (∀ (k : Nat) (q : Nat × va_E), ws[k]? = some q → ρ[k]? = some q.1 ∧ celR s G ρ (tget 9 M k) q.2) ∧ va_P D vwCl ws H ∧ va_D A ws
theorem memR_moved {D : va_G} {u U : State} {G : Gam} {A : Nat → Prop} {ρ : List Nat} {n : Nat} {M : Mem} {H : Heap} (hvm : u.vm.Alike U.vm) (h : memR D u G A ρ n M H) : memR D U G A ρ n M H := by
  obtain ⟨ws, h1, h2, h3, h4, h5, h6⟩ := h
  exact ⟨ws, h1, h2, h3, fun k q hk => ⟨(h4 k q hk).1, celR_moved hvm (h4 k q hk).2⟩, h5, h6⟩
def envR (G : Gam) (E : Env9) : Prop := (∀ i, (nthE E i).1 ≤ bi (toN (G.1 i)) ∧ bi (toN (G.1 i)) ≤ (nthE E i).2) ∧ G.1 4000 = G.1 1 - G.1 1 / 3 * 3
def locR (G : Gam) (ρ : List Nat) (ls : Array Slot) (nL : Nat) (L : List AV) : Prop := ls.size = nL ∧ lv_wf ls ∧ L.length = nL ∧ ∀ i, nth L i = vW 3 ∨ ∃ v, cz G ρ (nth L i) v ∧ ls[i]? = some (.val v)
theorem locR_mono {G : Gam} {ρ ρ' : List Nat} (h : ρ <+: ρ') {ls : Array Slot} {nL : Nat} {L : List AV} (hL : locR G ρ ls nL L) : locR G ρ' ls nL L :=
  ⟨hL.1, hL.2.1, hL.2.2.1, fun i => (hL.2.2.2 i).elim Or.inl fun ⟨v, h1, h2⟩ => Or.inr ⟨v, cz_mono h h1, h2⟩⟩
/-- the listed locals -/
theorem locR_list {G : Gam} {ρ : List Nat} {ls : Array Slot} {nL : Nat} {L : List AV} (h : locR G ρ ls nL L) : ∃ lv : List (Nat × Value), lv_has ls nL lv ∧ (∀ i, nth L i = vW 3 ∨ ∃ v, cz G ρ (nth L i) v ∧ (i, v) ∈ lv) := by
  refine ⟨(List.range nL).filterMap (fun i => match ls[i]? with | some (Slot.val v) => some (i, v) | _ => none), ⟨h.1, h.2.1, fun q hq => ?_⟩, fun i => ?_⟩
  · obtain ⟨i, -, hi⟩ := List.mem_filterMap.mp hq
    cases hs : ls[i]? with
    | none => rw [hs] at hi; cases hi
    | some x =>
      rw [hs] at hi
      cases x with
      | unset => cases hi
      | second => cases hi
      | val v => cases hi; exact hs
  · rcases h.2.2.2 i with h1 | ⟨v, h1, h2⟩
    · exact Or.inl h1
    · refine Or.inr ⟨v, h1, List.mem_filterMap.mpr ⟨i, List.mem_range.mpr ?_, by rw [h2]⟩⟩
      rw [← h.1]
      exact (Array.getElem?_eq_some_iff.mp h2).1
theorem nth_out : ∀ {L : List AV} {i : Nat}, L.length ≤ i → nth L i = vW 3 := by
  intro L
  induction L with
  | nil => intro i _; rfl
  | cons x t ih =>
    intro i h
    cases i with
    | zero => simp at h
    | succ i => exact ih (by simpa using h)
theorem lk2_spec {L : List AV} {i : Nat} (h : lk2 L i = true) : ∀ j, j + 1 = i → isC2 (nth L j) = false := by
  intro j hj
  subst hj
  have h' : (Bool.rec true false (isC2 (nth L j)) : Bool) = true := h
  cases hc : isC2 (nth L j) with
  | false => rfl
  | true => rw [hc] at h'; cases h'
theorem locR_st {G : Gam} {ρ : List Nat} {ls' : Array Slot} {nL : Nat} {L : List AV} {lv : List (Nat × Value)} {i : Nat} {a : AV} {v : Value} (hcov : ∀ i, nth L i = vW 3 ∨ ∃ v, cz G ρ (nth L i) v ∧ (i, v) ∈ lv) (hlen : L.length = nL) (hk : lk2 L i = true) (hv : cz G ρ a v)
    (h : lv_has ls' nL ((i, v) :: lv.filter (fun q => !(q.1 == i) && !(q.1 + 1 == i && q.2.category == 2)))) : locR G ρ ls' nL (nst L i a) := by
  refine ⟨h.1, h.2.1, by rw [nst_len]; exact hlen, fun j => ?_⟩
  rw [nth_nst]
  by_cases hj : j = i ∧ i < L.length
  · rw [if_pos hj, hj.1]
    exact Or.inr ⟨v, hv, h.2.2 (i, v) List.mem_cons_self⟩
  · rw [if_neg hj]
    rcases hcov j with h1 | ⟨u, h1, h2⟩
    · exact Or.inl h1
    · by_cases hji : j = i
      · exact Or.inl (nth_out (by rcases Nat.lt_or_ge i L.length with q | q; exact absurd ⟨hji, q⟩ hj; rw [hji]; exact q))
      · refine Or.inr ⟨u, h1, h.2.2 (j, u) (List.mem_cons_of_mem _ (List.mem_filter.mpr ⟨h2, ?_⟩))⟩
        have e1 : (j == i) = false := by simpa using hji
        by_cases hj1 : j + 1 = i
        · have h3 := cz_c1 h1 (lk2_spec hk j hj1)
          simp [e1, h3]
        · have e2 : (j + 1 == i) = false := by simpa using hj1
          simp [e1, e2]
theorem locR_st2 {G : Gam} {ρ : List Nat} {ls' : Array Slot} {nL : Nat} {L : List AV} {lv : List (Nat × Value)} {i : Nat} {a : AV} {v : Value} (hcov : ∀ i, nth L i = vW 3 ∨ ∃ v, cz G ρ (nth L i) v ∧ (i, v) ∈ lv) (hlen : L.length = nL) (hk : lk2 L i = true) (hv : cz G ρ a v)
    (h : lv_has ls' nL ((i, v) :: lv.filter (fun q => !(q.1 == i) && (!(q.1 == i + 1) && !(q.1 + 1 == i && q.2.category == 2))))) : locR G ρ ls' nL (nst (nst L i a) (i + 1) (vW 3)) := by
  refine ⟨h.1, h.2.1, by rw [nst_len, nst_len]; exact hlen, fun j => ?_⟩
  rw [nth_nst]
  by_cases hj : j = i + 1 ∧ i + 1 < (nst L i a).length
  · rw [if_pos hj]
    exact Or.inl rfl
  · rw [if_neg hj, nth_nst]
    rw [nst_len] at hj
    by_cases hji : j = i ∧ i < L.length
    · rw [if_pos hji, hji.1]
      exact Or.inr ⟨v, hv, h.2.2 (i, v) List.mem_cons_self⟩
    · rw [if_neg hji]
      rcases hcov j with h1 | ⟨u, h1, h2⟩
      · exact Or.inl h1
      · by_cases e0 : j = i
        · exact Or.inl (nth_out (by rcases Nat.lt_or_ge i L.length with q | q; exact absurd ⟨e0, q⟩ hji; rw [e0]; exact q))
        · by_cases e9 : j = i + 1
          · exact Or.inl (nth_out (by rcases Nat.lt_or_ge (i + 1) L.length with q | q; exact absurd ⟨e9, q⟩ hj; rw [e9]; exact q))
          · refine Or.inr ⟨u, h1, h.2.2 (j, u) (List.mem_cons_of_mem _ (List.mem_filter.mpr ⟨h2, ?_⟩))⟩
            have e1 : (j == i) = false := by simpa using e0
            have e3 : (j == i + 1) = false := by simpa using e9
            by_cases hj1 : j + 1 = i
            · have h3 := cz_c1 h1 (lk2_spec hk j hj1)
              simp [e1, e3, h3]
            · have e2 : (j + 1 == i) = false := by simpa using hj1
              simp [e1, e2, e3]
theorem nI_toN (x : Int32) : nI (toN x) = x := by
  unfold nI toN
  apply Int32.toBitVec_inj.mp
  simp
theorem lN_toN (x : Int64) : lN (toNL x) = x := by
  unfold lN toNL
  apply Int64.toBitVec_inj.mp
  simp
theorem nI_mod (n : Nat) : nI (n % 4294967296) = nI n := by
  unfold nI
  apply Int32.toBitVec_inj.mp
  apply BitVec.eq_of_toNat_eq
  simp
theorem nI_ad9 (x y : Nat) : nI ((x + y) % 4294967296) = nI x + nI y := by
  rw [nI_mod]
  unfold nI
  apply Int32.toBitVec_inj.mp
  apply BitVec.eq_of_toNat_eq
  simp
theorem nI_sub (x y : Nat) : nI ((x + (4294967296 - y % 4294967296)) % 4294967296) = nI x - nI y := by
  rw [nI_mod]
  unfold nI
  apply Int32.toBitVec_inj.mp
  apply BitVec.eq_of_toNat_eq
  simp [BitVec.toNat_sub]
  omega
theorem nI_int (n : Nat) : (nI n).toInt = ((bi n : Nat) : Int) - 2147483648 := by
  have h : (nI n).toInt = (BitVec.ofNat 32 n).toInt := rfl
  have h2 : (BitVec.ofNat 32 n).toInt = Int.bmod (n : Int) (2 ^ 32 : Nat) := by first | exact BitVec.toInt_ofNat' | simp [BitVec.toInt_ofNat'] | (rw [BitVec.toInt_eq_toNat_bmod]; simp)
  rw [h, h2]
  unfold bi
  unfold Int.bmod
  simp only [show ((2 ^ 32 : Nat) : Int) = 4294967296 from rfl]
  split <;> omega
theorem nI_lt_iff (x y : Nat) : nI x < nI y ↔ bi x < bi y := by
  rw [Int32.lt_iff_toInt_lt, nI_int, nI_int]; omega
theorem nI_eq_iff (x y : Nat) : nI x = nI y ↔ bi x = bi y := by
  constructor
  · intro h
    have h1 := nI_int x
    rw [h, nI_int] at h1
    omega
  · intro h
    apply Int32.toInt_inj.mp
    rw [nI_int, nI_int, h]
theorem bi_bi {x : Int32} {n : Nat} (h : x = nI n) : bi (toN x) = bi n := (nI_eq_iff _ _).mp (by rw [nI_toN, h])
end
section
/-! packed rows, forks, compares -/
theorem pget_pset (p j k x : Nat) : pget (pset p j x) k = if k = j then x % 4294967296 else pget p k := by
  have e32 : (4294967296 : Nat) = 2 ^ 32 := rfl
  have hb : ∀ q i : Nat, (pget q j).testBit i = (decide (i < 32) && q.testBit (32 * j + i)) := by
    intro q i
    unfold pget
    rw [e32, Nat.testBit_mod_two_pow, Nat.testBit_shiftRight]
  by_cases hk : k = j
  · subst hk
    rw [if_pos rfl]
    apply Nat.eq_of_testBit_eq
    intro i
    unfold pget pset
    rw [e32, Nat.testBit_mod_two_pow, Nat.testBit_shiftRight, Nat.testBit_xor, Nat.testBit_shiftLeft, Nat.testBit_xor, hb, Nat.testBit_mod_two_pow]
    by_cases hi : i < 32
    · have e1 : 32 * k + i - 32 * k = i := by omega
      have e2 : decide (32 * k + i ≥ 32 * k) = true := by simp
      rw [e1, e2]
      simp only [hi, decide_true, Bool.true_and]
      rw [Nat.testBit_mod_two_pow]
      cases p.testBit (32 * k + i) <;> simp [hi]
    · have h9 := Nat.testBit_mod_two_pow x 32 i
      simp only [hi, decide_false, Bool.false_and] at h9 ⊢
      exact h9.symm
  · rw [if_neg hk]
    apply Nat.eq_of_testBit_eq
    intro i
    unfold pget pset
    rw [e32, Nat.testBit_mod_two_pow, Nat.testBit_shiftRight, Nat.testBit_xor, Nat.testBit_shiftLeft, Nat.testBit_xor, hb, Nat.testBit_mod_two_pow, Nat.testBit_mod_two_pow, Nat.testBit_shiftRight]
    by_cases hi : i < 32
    · rcases Nat.lt_or_gt_of_ne hk with q | q
      · have e2 : decide (32 * k + i ≥ 32 * j) = false := by simp; omega
        rw [e2]
        simp
      · have e3 : decide (32 * k + i - 32 * j < 32) = false := by simp; omega
        rw [e3]
        simp
    · simp [hi]
theorem aget_cons (p : Nat) (q : Nat × AV) (ov : List (Nat × AV)) (k : Nat) : aget p (q :: ov) k = if q.1 = k then q.2 else aget p ov k := by
  show (Bool.rec (aget p ov k) q.2 (Nat.beq q.1 k) : AV) = _
  cases h : Nat.beq q.1 k with
  | false => rw [if_neg (fun e => by rw [e, Nat.beq_refl] at h; cases h)]
  | true => rw [if_pos (Nat.eq_of_beq_eq_true h)]
theorem orm_cons (q : Nat × AV) (ov : List (Nat × AV)) (j : Nat) : orm (q :: ov) j = if q.1 = j then orm ov j else q :: orm ov j := by
  show (Bool.rec (q :: orm ov j) (orm ov j) (Nat.beq q.1 j) : List (Nat × AV)) = _
  cases h : Nat.beq q.1 j with
  | false => rw [if_neg (fun e => by rw [e, Nat.beq_refl] at h; cases h)]
  | true => rw [if_pos (Nat.eq_of_beq_eq_true h)]
theorem aget_orm (p p' j k : Nat) (hp : k ≠ j → pget p' k = pget p k) : ∀ ov : List (Nat × AV), aget p' (orm ov j) k = if k = j then vI (pget p' j) else aget p ov k := by
  intro ov
  induction ov with
  | nil =>
    by_cases h : k = j
    · rw [if_pos h, h]; rfl
    · rw [if_neg h]
      show vI (pget p' k) = vI (pget p k)
      rw [hp h]
  | cons q ov ih =>
    rw [orm_cons]
    by_cases hq : q.1 = j
    · rw [if_pos hq, ih]
      by_cases h : k = j
      · rw [if_pos h, if_pos h]
      · rw [if_neg h, if_neg h, aget_cons, if_neg (by omega)]
    · rw [if_neg hq, aget_cons, ih, aget_cons]
      by_cases h : k = j
      · rw [if_pos h, if_neg (by omega), if_pos h]
      · rw [if_neg h, if_neg h]
theorem app_some {a b : OR} {rs : List Res} (h : app a b = some rs) : ∃ x y, a = some x ∧ b = some y ∧ rs = x ++ y := by
  cases a with
  | none => cases h
  | some x =>
    cases b with
    | none => cases h
    | some y => cases h; exact ⟨x, y, rfl, rfl, rfl⟩
theorem nthE_nstE : ∀ (l : Env9) (i j : Nat) (v : Nat × Nat), nthE (nstE l i v) j = if j = i ∧ i < l.length then v else nthE l j := by
  intro l
  induction l with
  | nil =>
    intro i j v
    rw [if_neg (by simp)]
    rfl
  | cons x t ih =>
    intro i j v
    cases i with
    | zero =>
      cases j with
      | zero => rw [if_pos ⟨rfl, by simp⟩]; rfl
      | succ j => rw [if_neg (by omega)]; rfl
    | succ i =>
      cases j with
      | zero => rw [if_neg (by omega)]; rfl
      | succ j =>
        have h := ih i j v
        show nthE (nstE t i v) j = if j + 1 = i + 1 ∧ i + 1 < (x :: t).length then v else nthE t j
        rw [h]
        by_cases q : j = i ∧ i < t.length
        · rw [if_pos q, if_pos ⟨by omega, by simp; omega⟩]
        · rw [if_neg q, if_neg (by simp; omega)]
theorem envR_set {G : Gam} {E : Env9} {i lo hi : Nat} (hE : envR G E) (h1 : lo ≤ bi (toN (G.1 i))) (h2 : bi (toN (G.1 i)) ≤ hi) : envR G (nstE E i (lo, hi)) := by
  refine ⟨fun j => ?_, hE.2⟩
  rw [nthE_nstE]
  by_cases h : j = i ∧ i < E.length
  · rw [if_pos h, h.1]; exact ⟨h1, h2⟩
  · rw [if_neg h]; exact hE.1 j
theorem bi_bi2 (n : Nat) : bi (bi n) = n % 4294967296 := by
  unfold bi
  omega
/-- where a number's interval is a point -/
theorem envR_pt {G : Gam} {E : Env9} {i : Nat} (hE : envR G E) (h : Nat.beq (nthE E i).1 (nthE E i).2 = true) : G.1 i = nI (bi (nthE E i).1) := by
  have h1 := Nat.eq_of_beq_eq_true h
  have h2 := hE.1 i
  have h3 : (nthE E i).1 = bi (toN (G.1 i)) := by omega
  rw [h3, bi_bi2, nI_mod, nI_toN]
/-- what a fork gives: the branch that is taken was run -/
def tak (G : Gam) (rs : List Res) (k : Env9 → OR) : Prop := ∃ E' rs', k E' = some rs' ∧ (∀ r ∈ rs', r ∈ rs) ∧ envR G E'
theorem fork3_ok {G : Gam} {E : Env9} {i c : Nat} {kl ke kg : Env9 → OR} {rs : List Res} (h : fork3 E i c kl ke kg = some rs) (hE : envR G E) :
    (bi (toN (G.1 i)) < c → tak G rs kl) ∧ (bi (toN (G.1 i)) = c → tak G rs ke) ∧ (c < bi (toN (G.1 i)) → tak G rs kg) := by
  unfold fork3 at h
  rw [fN_eq, fN_eq] at h
  obtain ⟨x, y, hx, hy, hr⟩ := app_some h
  obtain ⟨y1, y2, hy1, hy2, hr2⟩ := app_some hy
  have hb := hE.1 i
  subst hr; subst hr2
  refine ⟨fun q => ?_, fun q => ?_, fun q => ?_⟩
  · have e1 : Nat.ble ((nthE E i).1 + 1) c = true := Nat.ble_eq_true_of_le (by omega)
    rw [e1] at hx
    refine ⟨_, x, hx, fun r hr => List.mem_append_left _ hr, envR_set hE hb.1 ?_⟩
    cases hq : Nat.ble (nthE E i).2 (c - 1) with
    | true => exact hb.2
    | false => show _ ≤ c - 1; omega
  · have e1 : Nat.ble (nthE E i).1 c = true := Nat.ble_eq_true_of_le (by omega)
    have e2 : Nat.ble c (nthE E i).2 = true := Nat.ble_eq_true_of_le (by omega)
    rw [e1, e2] at hy1
    exact ⟨_, y1, hy1, fun r hr => List.mem_append_right _ (List.mem_append_left _ hr), envR_set hE (by omega) (by omega)⟩
  · have e1 : Nat.ble (c + 1) (nthE E i).2 = true := Nat.ble_eq_true_of_le (by omega)
    rw [e1] at hy2
    refine ⟨_, y2, hy2, fun r hr => List.mem_append_right _ (List.mem_append_right _ hr), envR_set hE ?_ hb.2⟩
    cases hq : Nat.ble (c + 1) (nthE E i).1 with
    | true => exact hb.1
    | false => show c + 1 ≤ _; omega
theorem c3_eq (u w : Nat) (a b c : OR) : c3 u w a b c = if u < w then a else if u = w then b else c := by
  unfold c3
  cases q : Nat.ble (u + 1) w with
  | true =>
    have := Nat.le_of_ble_eq_true q
    rw [if_pos (by omega)]
  | false =>
    have q1 : ¬ u + 1 ≤ w := fun e => by rw [Nat.ble_eq_true_of_le e] at q; cases q
    rw [if_neg (by omega)]
    cases q2 : Nat.beq u w with
    | true => rw [if_pos (Nat.eq_of_beq_eq_true q2)]
    | false => rw [if_neg (fun e => by rw [e, Nat.beq_refl] at q2; cases q2)]
theorem cmp3_ok {G : Gam} {ρ : List Nat} {a b : AV} {x y : Int32} {E : Env9} {kl ke kg : Env9 → OR} {rs : List Res} (h : cmp3 a b E kl ke kg = some rs) (hE : envR G E) (ha : cz G ρ a (.int x)) (hb : cz G ρ b (.int y)) :
    (x < y → tak G rs kl) ∧ (x = y → tak G rs ke) ∧ (y < x → tak G rs kg) := by
  have self : ∀ (k : Env9 → OR), k E = some rs → tak G rs k := fun k hk => ⟨E, rs, hk, fun _ h => h, hE⟩
  have z0 : ∀ (o : Nat × Nat), Nat.beq o.2 0 = true → ∀ w : Int32, (Value.int w = .int (G.1 o.1 + nI o.2)) → w = nI (toN (G.1 o.1)) := by
    intro o ho w hw
    rw [Nat.eq_of_beq_eq_true ho] at hw
    rw [nI_toN]
    have h1 := Value.int.inj hw
    rw [h1]
    show G.1 o.1 + 0 = G.1 o.1
    simp
  rcases a with n | k | n | o | i | w | n | n
  · have hx : x = nI n := Value.int.inj ha
    rcases b with n' | k | n' | o' | i | w | n' | n'
    · have hy : y = nI n' := Value.int.inj hb
      subst hx; subst hy
      have h' : c3 (bi n) (bi n') (kl E) (ke E) (kg E) = some rs := h
      rw [c3_eq] at h'
      rw [nI_lt_iff, nI_eq_iff, nI_lt_iff]
      by_cases q : bi n < bi n'
      · rw [if_pos q] at h'
        exact ⟨fun _ => self _ h', fun e => by omega, fun e => by omega⟩
      · rw [if_neg q] at h'
        by_cases q2 : bi n = bi n'
        · rw [if_pos q2] at h'
          exact ⟨fun e => absurd e q, fun _ => self _ h', fun e => by omega⟩
        · rw [if_neg q2] at h'
          exact ⟨fun e => absurd e q, fun e => absurd e q2, fun _ => self _ h'⟩
    · cases h
    · cases h
    · cases o' with
      | none => cases h
      | some o =>
        have h' : gd (Nat.beq o.2 0) (fork3 E o.1 (bi n) kg ke kl) = some rs := h
        obtain ⟨h0, h1⟩ := gd_some h'
        have hy := z0 o h0 y hb
        obtain ⟨f1, f2, f3⟩ := fork3_ok h1 hE
        subst hx; subst hy
        rw [nI_lt_iff, nI_eq_iff, nI_lt_iff]
        exact ⟨f3, fun e => f2 e.symm, f1⟩
    all_goals cases h
  · cases h
  · cases h
  · cases o with
    | none => rcases b with n' | k | n' | o' | i | w | n' | n' <;> cases h
    | some o =>
      rcases b with n' | k | n' | o' | i | w | n' | n'
      · have hy : y = nI n' := Value.int.inj hb
        have h' : gd (Nat.beq o.2 0) (fork3 E o.1 (bi n') kl ke kg) = some rs := h
        obtain ⟨h0, h1⟩ := gd_some h'
        have hx := z0 o h0 x ha
        obtain ⟨f1, f2, f3⟩ := fork3_ok h1 hE
        subst hx; subst hy
        rw [nI_lt_iff, nI_eq_iff, nI_lt_iff]
        exact ⟨f1, f2, f3⟩
      · cases h
      · cases h
      · cases o' with
        | none => cases h
        | some o' =>
          have h' : gd (Nat.beq o.1 o'.1) (gd (Nat.beq o.2 o'.2) (ke E)) = some rs := h
          obtain ⟨h0, h1⟩ := gd_some h'
          obtain ⟨h2, h3⟩ := gd_some h1
          have hxy : x = y := by
            have hx : x = G.1 o.1 + nI o.2 := Value.int.inj ha
            have hy : y = G.1 o'.1 + nI o'.2 := Value.int.inj hb
            rw [hx, hy, Nat.eq_of_beq_eq_true h0, Nat.eq_of_beq_eq_true h2]
          subst hxy
          exact ⟨fun e => absurd e (Int32.lt_irrefl), fun _ => self _ h3, fun e => absurd e (Int32.lt_irrefl)⟩
      all_goals cases h
  all_goals cases h
theorem addK_ok {G : Gam} {ρ : List Nat} {a b : AV} {x y : Int32} {f : AV → OR} {rs : List Res} (h : addK a b f = some rs) (ha : cz G ρ a (.int x)) (hb : cz G ρ b (.int y)) : ∃ w, f w = some rs ∧ cz G ρ w (.int (x + y)) := by
  have any : ∀ w : Int32, cz G ρ (vX none) (.int w) := fun w => ⟨w, rfl⟩
  have key : ∀ (o : Nat × Nat) (n : Nat) (u v : Int32), cz G ρ (vX (some o)) (.int u) → v = nI n → cz G ρ (vX (some (o.1, (o.2 + n) % 4294967296))) (.int (u + v)) := by
    intro o n u v hu hv
    have hu' : u = G.1 o.1 + nI o.2 := Value.int.inj hu
    show Value.int (u + v) = .int (G.1 o.1 + nI ((o.2 + n) % 4294967296))
    rw [nI_ad9, hu', hv, Int32.add_assoc]
  rcases a with n | k | n | o | i | w | n | n
  · have hx : x = nI n := Value.int.inj ha
    rcases b with n' | k | n' | o' | i | w | n' | n'
    · have hy : y = nI n' := Value.int.inj hb
      have h' : fN ((n + n') % 4294967296) (fun r => f (.inl r)) = some rs := h
      rw [fN_eq] at h'
      exact ⟨_, h', by show Value.int (x + y) = _; rw [hx, hy, nI_ad9]⟩
    · cases hb.choose_spec.2
    · cases hb
    · cases o' with
      | none => exact ⟨_, h, any _⟩
      | some o => exact ⟨_, h, by rw [Int32.add_comm]; exact key o n y x hb hx⟩
    · cases hb
    · exact ⟨_, h, any _⟩
    · cases hb
    · cases hb
  · cases ha.choose_spec.2
  · cases ha
  · cases o with
    | none => rcases b with n' | k | n' | o' | i | w | n' | n' <;> exact ⟨_, h, any _⟩
    | some o =>
      rcases b with n' | k | n' | o' | i | w | n' | n'
      · exact ⟨_, h, key o n' x y ha (Value.int.inj hb)⟩
      all_goals exact ⟨_, h, any _⟩
  · cases ha
  · rcases b with n' | k | n' | o' | i | w | n' | n' <;> exact ⟨_, h, any _⟩
  · cases ha
  · cases ha
theorem biK_ok {G : Gam} {ρ : List Nat} {a b : AV} {x y : Int32} {g : Nat → Nat → Nat} {op : Int32 → Int32 → Int32} {f : AV → OR} {rs : List Res} (h : biK g a b f = some rs) (ha : cz G ρ a (.int x)) (hb : cz G ρ b (.int y)) (hg : ∀ u v, nI (g u v) = op (nI u) (nI v)) : ∃ w, f w = some rs ∧ cz G ρ w (.int (op x y)) := by
  have any : ∀ w : Int32, cz G ρ (vX none) (.int w) := fun w => ⟨w, rfl⟩
  rcases a with n | k | n | o | i | w | n | n
  · have hx : x = nI n := Value.int.inj ha
    rcases b with n' | k | n' | o' | i | w | n' | n'
    · have hy : y = nI n' := Value.int.inj hb
      have h' : fN (g n n') (fun r => f (.inl r)) = some rs := h
      rw [fN_eq] at h'
      exact ⟨_, h', by show Value.int (op x y) = .int (nI (g n n')); rw [hg, hx, hy]⟩
    all_goals exact ⟨_, h, any _⟩
  all_goals exact ⟨_, h, any _⟩
theorem unK_ok {G : Gam} {ρ : List Nat} {a : AV} {x : Int32} {g : Nat → Nat} {op : Int32 → Int32} {f : AV → OR} {rs : List Res} (h : unK g a f = some rs) (ha : cz G ρ a (.int x)) (hg : ∀ u, nI (g u) = op (nI u)) : ∃ w, f w = some rs ∧ cz G ρ w (.int (op x)) := by
  have any : ∀ w : Int32, cz G ρ (vX none) (.int w) := fun w => ⟨w, rfl⟩
  rcases a with n | k | n | o | i | w | n | n
  · have hx : x = nI n := Value.int.inj ha
    have h' : fN (g n) (fun r => f (.inl r)) = some rs := h
    rw [fN_eq] at h'
    exact ⟨_, h', by show Value.int (op x) = .int (nI (g n)); rw [hg, hx]⟩
  all_goals exact ⟨_, h, any _⟩
theorem joinR_ok {f : Res → OR} : ∀ {l : List Res} {rs : List Res}, joinR f l = some rs → ∀ r ∈ l, ∃ rs', f r = some rs' ∧ ∀ q ∈ rs', q ∈ rs := by
  intro l
  induction l with
  | nil => intro rs _ r hr; cases hr
  | cons a l ih =>
    intro rs h r hr
    have h' : app (f a) (joinR f l) = some rs := h
    obtain ⟨x, y, hx, hy, he⟩ := app_some h'
    subst he
    rcases List.mem_cons.mp hr with h1 | h1
    · subst h1; exact ⟨x, hx, fun q hq => List.mem_append_left _ hq⟩
    · obtain ⟨rs', g1, g2⟩ := ih hy r h1
      exact ⟨rs', g1, fun q hq => List.mem_append_right _ (g2 q hq)⟩
theorem spl_spec {G : Gam} {ρ : List Nat} : ∀ (na : Nat) (acc S : List AV) (vacc st : List Value), na ≤ S.length → czs G ρ acc vacc → czs G ρ S st → ∃ vs rest, st = vs.reverse ++ rest ∧ vs.length = na ∧ czs G ρ (spl na acc S).1 (vs ++ vacc) ∧ czs G ρ (spl na acc S).2 rest := by
  intro na
  induction na with
  | zero => intro acc S vacc st _ h1 h2; exact ⟨[], st, rfl, rfl, h1, h2⟩
  | succ na ih =>
    intro acc S vacc st hl h1 h2
    cases S with
    | nil => simp at hl
    | cons a S =>
      obtain ⟨v, st', rfl, g1, g2⟩ := czs_cons h2
      obtain ⟨vs, rest, e1, e2, e3, e4⟩ := ih (a :: acc) S (v :: vacc) st' (by simpa using hl) ⟨g1, h1⟩ g2
      refine ⟨vs ++ [v], rest, by rw [e1]; simp, by simp [e2], ?_, e4⟩
      have e5 : vs ++ [v] ++ vacc = vs ++ v :: vacc := by simp
      rw [e5]
      exact e3
theorem toNL_lN (n : Nat) (h : n < 18446744073709551616) : toNL (lN n) = n := by
  unfold toNL lN
  simp
  omega
theorem lg_cmp_i2l (x y : Int32) : lg_cmp x.toInt64 y.toInt64 = if y < x then 1 else if x = y then 0 else -1 := by
  unfold lg_cmp
  have h1 : (x.toInt64 > y.toInt64) ↔ y < x := by
    show y.toInt64 < x.toInt64 ↔ _
    rw [Int64.lt_iff_toInt_lt, Int32.lt_iff_toInt_lt]
    simp
  have h2 : (x.toInt64 = y.toInt64) ↔ x = y := by
    constructor
    · intro h
      apply Int32.toInt_inj.mp
      have := congrArg Int64.toInt h
      simpa using this
    · intro h; rw [h]
  simp only [h1, h2]
end
section
theorem nc2 {a : AV} (h : (Bool.rec true false (isC2 a) : Bool) = true) : isC2 a = false := by
  cases hc : isC2 a with
  | false => rfl
  | true => rw [hc] at h; cases h
theorem i32_lt (x y : Int32) : x < y ↔ x.toInt < y.toInt := Int32.lt_iff_toInt_lt
theorem i32_le (x y : Int32) : x ≤ y ↔ x.toInt ≤ y.toInt := Int32.le_iff_toInt_le
theorem i32_tri (x y : Int32) : x < y ∨ x = y ∨ y < x := by
  rcases Int.lt_trichotomy x.toInt y.toInt with h | h | h
  · exact Or.inl (Int32.lt_iff_toInt_lt.mpr h)
  · exact Or.inr (Or.inl (Int32.toInt_inj.mp h))
  · exact Or.inr (Or.inr (Int32.lt_iff_toInt_lt.mpr h))
theorem nthN_out : ∀ {l : List Nat} {d i : Nat}, l.length ≤ i → nthN l d i = d := by
  intro l
  induction l with
  | nil => intro d i _; rfl
  | cons x t ih =>
    intro d i h
    cases i with
    | zero => simp at h
    | succ i => exact ih (by simpa using h)
theorem cmp3_int {G : Gam} {ρ : List Nat} {a b : AV} {u v : Value} {E : Env9} {kl ke kg : Env9 → OR} {rs : List Res} (h : cmp3 a b E kl ke kg = some rs) (ha : cz G ρ a u) (hb : cz G ρ b v) : (∃ x, u = .int x) ∧ ∃ y, v = .int y := by
  rcases a with x | k | x | o | i | w | k | k
  · rcases b with y | k | y | o' | i | w | k | k
    · exact ⟨⟨_, ha⟩, ⟨_, hb⟩⟩
    · cases h
    · cases h
    · cases o' with
      | none => cases h
      | some o' => exact ⟨⟨_, ha⟩, ⟨_, hb⟩⟩
    all_goals cases h
  · cases h
  · cases h
  · cases o with
    | none => rcases b with y | k | y | o' | i | w | k | k <;> cases h
    | some o =>
      rcases b with y | k | y | o' | i | w | k | k
      · exact ⟨⟨_, ha⟩, ⟨_, hb⟩⟩
      · cases h
      · cases h
      · cases o' with
        | none => cases h
        | some o' => exact ⟨⟨_, ha⟩, ⟨_, hb⟩⟩
      all_goals cases h
  all_goals cases h
/-! one lemma an instruction: what the small machine does, the real one does -/
def WW (p : Program) (l : Launch) (e : Env) (R : Room) (s : State) (m : MethodId) (args : Array Value) (below : List Frame) (meth : Method) (c : Code) (Q : State → Prop) (D : va_G) (G : Gam) (A : Nat → Prop) (ρ0 : List Nat) (nL : Nat) (pc : Nat) (E : Env9) (n z : Nat) (L S : List AV) (M : Mem) : Prop :=
  ∀ (ρ : List Nat) (H : Heap) (locs : List Loc) (ls : Array Slot) (st : List Value), ρ0 <+: ρ → envR G E → memR D s G A ρ n M H → va_S A s.heap H locs → locR G ρ ls nL L → czs G ρ S st → W p l e R s m args below meth c H locs z z Q (F0 m pc ls st)
def KOK (p : Program) (l : Launch) (e : Env) (R : Room) (s : State) (m : MethodId) (args : Array Value) (below : List Frame) (meth : Method) (c : Code) (Q : State → Prop) (D : va_G) (G : Gam) (A : Nat → Prop) (ρ0 : List Nat) (nL : Nat) (Pe : Res → Prop) (pc : Nat) (K : KK) : Prop :=
  ∀ (E : Env9) (n z : Nat) (L S : List AV) (M : Mem) (rs : List Res), K E n z L S M = some rs → (∀ r ∈ rs, Pe r) → WW p l e R s m args below meth c Q D G A ρ0 nL pc E n z L S M
def Cx (cc : ByteArray) (own : String) (Ts : List Cond) (p : Program) (l : Launch) (s : State) (m : MethodId) (args : Array Value) (meth : Method) (c : Code) (D : va_G) (G : Gam) (A : Nat → Prop) (nL : Nat) : Prop :=
  p.tables.exec = Jvm.exec ∧ c.code = cc ∧ c.maxLocals = nL ∧ s.vm.findClass own = some m.cls ∧ (∀ w ∈ Ts, w.before args s = true) ∧ va_K D vwCl [] s ∧ (∀ q, s.heap.size ≤ q → A q)
section OPS
variable {p : Program} {l : Launch} {e : Env} {R : Room} {s : State} {m : MethodId} {args : Array Value} {below : List Frame} {meth : Method} {c : Code} {Q : State → Prop} {D : va_G} {G : Gam} {A : Nat → Prop} {ρ0 : List Nat} {nL : Nat} {Pe : Res → Prop} {cc : ByteArray} {own : String} {Ts : List Cond} {pc : Nat} {K : KK}
theorem ld_int {ρ : List Nat} {ls : Array Slot} {L : List AV} {i : Nat} {f : AV → Bool} (hL : locR G ρ ls nL L) (hf : f (vW 3) = false) (h : f (nth L i) = true) : ∃ v, cz G ρ (nth L i) v ∧ ls[i]? = some (.val v) := by
  rcases hL.2.2.2 i with q | q
  · rw [q, hf] at h; cases h
  · exact q
theorem loc_lt {ρ : List Nat} {ls : Array Slot} {L : List AV} (hL : locR G ρ ls nL L) {i : Nat} (h : nth L i ≠ vW 3) : i < nL := by
  rw [← hL.2.2.1]
  exact Nat.lt_of_not_le fun q => h (nth_out q)
theorem K_call (C : Cx cc own Ts p l s m args meth c D G A nL) {call : Call} {x : AV} {v : Value} (hx : ∀ ρ, ρ0 <+: ρ → cz G ρ x v) {pc' : Nat} (row : ∀ (H : Heap) (locs : List Loc) (z : Nat) (ls : Array Slot) (st : List Value), W p l e R s m args below meth c H locs z z Q (F0 m pc' ls (v :: st)) → W p l e R s m args below meth c H locs z z Q (F0 m pc ls st)) (hK : KOK p l e R s m args below meth c Q D G A ρ0 nL Pe pc' K) : KOK p l e R s m args below meth c Q D G A ρ0 nL Pe pc (op_push x call K) :=
  fun E n z L S M rs h he ρ H locs ls st h0 hE hM hS hL hs => row H locs z ls st (hK E n z L (x :: S) M rs h he ρ H locs ls (v :: st) h0 hE hM hS hL ⟨hx ρ h0, hs⟩)
theorem ok_iconst (C : Cx cc own Ts p l s m args meth c D G A nL) {call : Call} {n : Int} {x : Nat} (hdg : decode cc pc = .ok (.iconst n, 1)) (hv : Int32.ofInt n = nI x) (hK : KOK p l e R s m args below meth c Q D G A ρ0 nL Pe (pc + 1) K) : KOK p l e R s m args below meth c Q D G A ρ0 nL Pe pc (op_push (vI x) call K) := by
  exact K_call C (v := .int (nI x)) (fun _ _ => rfl) (fun H locs z ls st k => lv_iconst C.1 C.2.1 hdg hv k) hK
theorem ok_bipush (C : Cx cc own Ts p l s m args meth c D G A nL) {call : Call} {n : Int} {x : Nat} (hdg : decode cc pc = .ok (.bipush n, 2)) (hv : (Int8.ofInt n).toInt32 = nI x) (hK : KOK p l e R s m args below meth c Q D G A ρ0 nL Pe (pc + 2) K) : KOK p l e R s m args below meth c Q D G A ρ0 nL Pe pc (op_push (vI x) call K) := by
  exact K_call C (v := .int (nI x)) (fun _ _ => rfl) (fun H locs z ls st k => lv_bipush C.1 C.2.1 hdg hv k) hK
theorem ok_sipush (C : Cx cc own Ts p l s m args meth c D G A nL) {call : Call} {n : Int} {x : Nat} (hdg : decode cc pc = .ok (.sipush n, 3)) (hv : (Int16.ofInt n).toInt32 = nI x) (hK : KOK p l e R s m args below meth c Q D G A ρ0 nL Pe (pc + 3) K) : KOK p l e R s m args below meth c Q D G A ρ0 nL Pe pc (op_push (vI x) call K) := by
  exact K_call C (v := .int (nI x)) (fun _ _ => rfl) (fun H locs z ls st k => lv_sipush C.1 C.2.1 hdg hv k) hK
theorem ok_lconst (C : Cx cc own Ts p l s m args meth c D G A nL) {call : Call} {n : Fin 2} {x : Nat} (hdg : decode cc pc = .ok (.lconst n, 1)) (hv : Int64.ofNat (n : Nat) = lN x) (hK : KOK p l e R s m args below meth c Q D G A ρ0 nL Pe (pc + 1) K) : KOK p l e R s m args below meth c Q D G A ρ0 nL Pe pc (op_push (vJ x) call K) := by
  exact K_call C (v := .long (lN x)) (fun _ _ => rfl) (fun H locs z ls st k => lv_lconst C.1 C.2.1 hdg hv k) hK
theorem ok_ldc2 (C : Cx cc own Ts p l s m args meth c D G A nL) {call : Call} {index : Nat} {x : Nat} (hc : (Cond.constantLong own index (lN x)).before args s = true) (hdg : decode cc pc = .ok (.ldc2_w index, 3)) (hK : KOK p l e R s m args below meth c Q D G A ρ0 nL Pe (pc + 3) K) : KOK p l e R s m args below meth c Q D G A ρ0 nL Pe pc (op_push (vJ x) call K) := by
  exact K_call C (v := .long (lN x)) (fun _ _ => rfl) (fun H locs z ls st k => lv_ldc2 C.1 C.2.1 C.2.2.2.1 hc hdg k) hK
theorem ok_dconst0 (C : Cx cc own Ts p l s m args meth c D G A nL) {call : Call} (hdg : decode cc pc = .ok (.dconst 0, 1)) (hK : KOK p l e R s m args below meth c Q D G A ρ0 nL Pe (pc + 1) K) : KOK p l e R s m args below meth c Q D G A ρ0 nL Pe pc (op_push (vD 0) call K) := by
  exact K_call C (v := .double FP.dconst0) (fun _ _ => rfl) (fun H locs z ls st k => lv_dconst0 C.1 C.2.1 hdg k) hK
theorem ok_fconst0 (C : Cx cc own Ts p l s m args meth c D G A nL) {call : Call} (hdg : decode cc pc = .ok (.fconst 0, 1)) (hK : KOK p l e R s m args below meth c Q D G A ρ0 nL Pe (pc + 1) K) : KOK p l e R s m args below meth c Q D G A ρ0 nL Pe pc (op_push (vF 0) call K) := by
  exact K_call C (v := .float FP.fconst0) (fun _ _ => rfl) (fun H locs z ls st k => lv_fconst0 C.1 C.2.1 hdg k) hK
theorem ok_ldcS (C : Cx cc own Ts p l s m args meth c D G A nL) {call : Call} {index : Nat} {tx : String} {w : Nat} (hw : 4 ≤ w ∧ w < 5000) (hR : vk_R own index tx (G.2.1 (w - 4)) s) (hdg : decode cc pc = .ok (.ldc index, 2)) (hK : KOK p l e R s m args below meth c Q D G A ρ0 nL Pe (pc + 2) K) : KOK p l e R s m args below meth c Q D G A ρ0 nL Pe pc (op_push (vW w) call K) := by
  exact K_call C (v := .ref (G.2.1 (w - 4))) (fun _ _ => Or.inr (Or.inr (Or.inr (Or.inl ⟨hw.1, hw.2, rfl⟩)))) (fun H locs z ls st k => va_ldcS C.1 C.2.1 C.2.2.2.1 hR hdg k) hK
theorem ok_ldcSW (C : Cx cc own Ts p l s m args meth c D G A nL) {call : Call} {index : Nat} {tx : String} {w : Nat} (hw : 4 ≤ w ∧ w < 5000) (hR : vk_R own index tx (G.2.1 (w - 4)) s) (hdg : decode cc pc = .ok (.ldc_w index, 3)) (hK : KOK p l e R s m args below meth c Q D G A ρ0 nL Pe (pc + 3) K) : KOK p l e R s m args below meth c Q D G A ρ0 nL Pe pc (op_push (vW w) call K) := by
  exact K_call C (v := .ref (G.2.1 (w - 4))) (fun _ _ => Or.inr (Or.inr (Or.inr (Or.inl ⟨hw.1, hw.2, rfl⟩)))) (fun H locs z ls st k => by
    intro T hT X
    obtain ⟨t, a1, b1⟩ := k T hT X
    exact ⟨t, X.ldcStringW C.1 C.2.2.2.1 (text := tx) (a := G.2.1 (w - 4)) hR.1 hR.2 (g := F0 m pc ls st) rfl (by rw [C.2.1]; exact hdg) t a1, b1⟩) hK
theorem ok_iload_n (C : Cx cc own Ts p l s m args meth c D G A nL) {call : Call} {k : Fin 4} {i : Nat} (hdg : decode cc pc = .ok (.iload_n k, 1)) (hi : (k : Nat) = i) (hK : KOK p l e R s m args below meth c Q D G A ρ0 nL Pe (pc + 1) K) : KOK p l e R s m args below meth c Q D G A ρ0 nL Pe pc (op_ld isI i call K) := by
  intro E n z L S M rs h he ρ H locs ls st h0 hE hM hS hL hs
  obtain ⟨h1, h2⟩ := gd_some (show gd (isI (nth L i)) (K E n z L (nth L i :: S) M) = some rs from h)
  obtain ⟨v, hv, hls⟩ := ld_int hL (f := isI) rfl h1
  obtain ⟨x, rfl⟩ := cz_isI hv h1
  exact lv_iload_n C.1 C.2.1 hdg hi hls (hK E n z L _ M rs h2 he ρ H locs ls (.int x :: st) h0 hE hM hS hL ⟨hv, hs⟩)
theorem ok_lload_n (C : Cx cc own Ts p l s m args meth c D G A nL) {call : Call} {k : Fin 4} {i : Nat} (hdg : decode cc pc = .ok (.lload_n k, 1)) (hi : (k : Nat) = i) (hK : KOK p l e R s m args below meth c Q D G A ρ0 nL Pe (pc + 1) K) : KOK p l e R s m args below meth c Q D G A ρ0 nL Pe pc (op_ld isJ i call K) := by
  intro E n z L S M rs h he ρ H locs ls st h0 hE hM hS hL hs
  obtain ⟨h1, h2⟩ := gd_some (show gd (isJ (nth L i)) (K E n z L (nth L i :: S) M) = some rs from h)
  obtain ⟨v, hv, hls⟩ := ld_int hL (f := isJ) rfl h1
  obtain ⟨x, rfl⟩ := cz_isJ hv h1
  exact lv_lload_n C.1 C.2.1 hdg hi hls (hK E n z L _ M rs h2 he ρ H locs ls (.long x :: st) h0 hE hM hS hL ⟨hv, hs⟩)
theorem ok_aload_n (C : Cx cc own Ts p l s m args meth c D G A nL) {call : Call} {k : Fin 4} {i : Nat} (hdg : decode cc pc = .ok (.aload_n k, 1)) (hi : (k : Nat) = i) (hK : KOK p l e R s m args below meth c Q D G A ρ0 nL Pe (pc + 1) K) : KOK p l e R s m args below meth c Q D G A ρ0 nL Pe pc (op_ld isA i call K) := by
  intro E n z L S M rs h he ρ H locs ls st h0 hE hM hS hL hs
  obtain ⟨h1, h2⟩ := gd_some (show gd (isA (nth L i)) (K E n z L (nth L i :: S) M) = some rs from h)
  obtain ⟨v, hv, hls⟩ := ld_int hL (f := isA) rfl h1
  rcases cz_isA hv h1 with rfl | ⟨q, rfl⟩
  · exact lv_aload_nN C.1 C.2.1 hdg hi hls (hK E n z L _ M rs h2 he ρ H locs ls (.null :: st) h0 hE hM hS hL ⟨hv, hs⟩)
  · exact lv_aload_n C.1 C.2.1 hdg hi hls (hK E n z L _ M rs h2 he ρ H locs ls (.ref q :: st) h0 hE hM hS hL ⟨hv, hs⟩)
theorem ok_iload (C : Cx cc own Ts p l s m args meth c D G A nL) {call : Call} {i : Nat} (hdg : decode cc pc = .ok (.iload i, 2)) (hK : KOK p l e R s m args below meth c Q D G A ρ0 nL Pe (pc + 2) K) : KOK p l e R s m args below meth c Q D G A ρ0 nL Pe pc (op_ld isI i call K) := by
  intro E n z L S M rs h he ρ H locs ls st h0 hE hM hS hL hs
  obtain ⟨h1, h2⟩ := gd_some (show gd (isI (nth L i)) (K E n z L (nth L i :: S) M) = some rs from h)
  obtain ⟨v, hv, hls⟩ := ld_int hL (f := isI) rfl h1
  obtain ⟨x, rfl⟩ := cz_isI hv h1
  exact lv_iload C.1 C.2.1 hdg hls (hK E n z L _ M rs h2 he ρ H locs ls (.int x :: st) h0 hE hM hS hL ⟨hv, hs⟩)
theorem ok_lload (C : Cx cc own Ts p l s m args meth c D G A nL) {call : Call} {i : Nat} (hdg : decode cc pc = .ok (.lload i, 2)) (hK : KOK p l e R s m args below meth c Q D G A ρ0 nL Pe (pc + 2) K) : KOK p l e R s m args below meth c Q D G A ρ0 nL Pe pc (op_ld isJ i call K) := by
  intro E n z L S M rs h he ρ H locs ls st h0 hE hM hS hL hs
  obtain ⟨h1, h2⟩ := gd_some (show gd (isJ (nth L i)) (K E n z L (nth L i :: S) M) = some rs from h)
  obtain ⟨v, hv, hls⟩ := ld_int hL (f := isJ) rfl h1
  obtain ⟨x, rfl⟩ := cz_isJ hv h1
  exact lv_lload C.1 C.2.1 hdg hls (hK E n z L _ M rs h2 he ρ H locs ls (.long x :: st) h0 hE hM hS hL ⟨hv, hs⟩)
theorem ok_aload (C : Cx cc own Ts p l s m args meth c D G A nL) {call : Call} {i : Nat} (hdg : decode cc pc = .ok (.aload i, 2)) (hK : KOK p l e R s m args below meth c Q D G A ρ0 nL Pe (pc + 2) K) : KOK p l e R s m args below meth c Q D G A ρ0 nL Pe pc (op_ld isA i call K) := by
  intro E n z L S M rs h he ρ H locs ls st h0 hE hM hS hL hs
  obtain ⟨h1, h2⟩ := gd_some (show gd (isA (nth L i)) (K E n z L (nth L i :: S) M) = some rs from h)
  obtain ⟨v, hv, hls⟩ := ld_int hL (f := isA) rfl h1
  rcases cz_isA hv h1 with rfl | ⟨q, rfl⟩
  · exact lv_aloadN C.1 C.2.1 hdg hls (hK E n z L _ M rs h2 he ρ H locs ls (.null :: st) h0 hE hM hS hL ⟨hv, hs⟩)
  · exact lv_aload C.1 C.2.1 hdg hls (hK E n z L _ M rs h2 he ρ H locs ls (.ref q :: st) h0 hE hM hS hL ⟨hv, hs⟩)
theorem ok_dload (C : Cx cc own Ts p l s m args meth c D G A nL) {call : Call} {i : Nat} (hdg : decode cc pc = .ok (.dload i, 2)) (hK : KOK p l e R s m args below meth c Q D G A ρ0 nL Pe (pc + 2) K) : KOK p l e R s m args below meth c Q D G A ρ0 nL Pe pc (op_ld isD i call K) := by
  intro E n z L S M rs h he ρ H locs ls st h0 hE hM hS hL hs
  obtain ⟨h1, h2⟩ := gd_some (show gd (isD (nth L i)) (K E n z L (nth L i :: S) M) = some rs from h)
  obtain ⟨v, hv, hls⟩ := ld_int hL (f := isD) rfl h1
  obtain ⟨x, rfl⟩ := cz_isD hv h1
  exact lv_dload C.1 C.2.1 hdg hls (hK E n z L _ M rs h2 he ρ H locs ls (.double x :: st) h0 hE hM hS hL ⟨hv, hs⟩)
theorem ok_istore_n (C : Cx cc own Ts p l s m args meth c D G A nL) {call : Call} {k : Fin 4} {i : Nat} (hdg : decode cc pc = .ok (.istore_n k, 1)) (hi : (k : Nat) = i) (hn : i < nL) (hK : KOK p l e R s m args below meth c Q D G A ρ0 nL Pe (pc + 1) K) : KOK p l e R s m args below meth c Q D G A ρ0 nL Pe pc (op_st isI i call K) := by
  intro E n z L S M rs h he ρ H locs ls st h0 hE hM hS hL hs
  cases S with
  | nil => cases h
  | cons a S =>
    obtain ⟨h1, h2⟩ := gd_some (show gd (isI a) (gd (lk2 L i) (K E n z (nst L i a) S M)) = some rs from h)
    obtain ⟨h3, h4⟩ := gd_some h2
    have hs0 := hs
    clear hs
    obtain ⟨v, st, rfl, hv, hs⟩ := czs_cons hs0
    obtain ⟨lv, hlv, hcov⟩ := locR_list hL
    obtain ⟨x, rfl⟩ := cz_isI hv h1
    exact lv_istore_n C.1 C.2.1 hdg hi hlv hn rfl (fun ls' hl' => hK E n z _ S M rs h4 he ρ H locs ls' st h0 hE hM hS (locR_st hcov hL.2.2.1 h3 hv hl') hs)
theorem ok_lstore_n (C : Cx cc own Ts p l s m args meth c D G A nL) {call : Call} {k : Fin 4} {i : Nat} (hdg : decode cc pc = .ok (.lstore_n k, 1)) (hi : (k : Nat) = i) (hn : i + 1 < nL) (hK : KOK p l e R s m args below meth c Q D G A ρ0 nL Pe (pc + 1) K) : KOK p l e R s m args below meth c Q D G A ρ0 nL Pe pc (op_st2 isJ i call K) := by
  intro E n z L S M rs h he ρ H locs ls st h0 hE hM hS hL hs
  cases S with
  | nil => cases h
  | cons a S =>
    obtain ⟨h1, h2⟩ := gd_some (show gd (isJ a) (gd (lk2 L i) (K E n z (nst (nst L i a) (i + 1) (vW 3)) S M)) = some rs from h)
    obtain ⟨h3, h4⟩ := gd_some h2
    have hs0 := hs
    clear hs
    obtain ⟨v, st, rfl, hv, hs⟩ := czs_cons hs0
    obtain ⟨lv, hlv, hcov⟩ := locR_list hL
    obtain ⟨x, rfl⟩ := cz_isJ hv h1
    exact lv_lstore_n C.1 C.2.1 hdg hi hlv hn rfl (fun ls' hl' => hK E n z _ S M rs h4 he ρ H locs ls' st h0 hE hM hS (locR_st2 hcov hL.2.2.1 h3 hv hl') hs)
theorem ok_astore_n (C : Cx cc own Ts p l s m args meth c D G A nL) {call : Call} {k : Fin 4} {i : Nat} (hdg : decode cc pc = .ok (.astore_n k, 1)) (hi : (k : Nat) = i) (hn : i < nL) (hK : KOK p l e R s m args below meth c Q D G A ρ0 nL Pe (pc + 1) K) : KOK p l e R s m args below meth c Q D G A ρ0 nL Pe pc (op_st isA i call K) := by
  intro E n z L S M rs h he ρ H locs ls st h0 hE hM hS hL hs
  cases S with
  | nil => cases h
  | cons a S =>
    obtain ⟨h1, h2⟩ := gd_some (show gd (isA a) (gd (lk2 L i) (K E n z (nst L i a) S M)) = some rs from h)
    obtain ⟨h3, h4⟩ := gd_some h2
    have hs0 := hs
    clear hs
    obtain ⟨v, st, rfl, hv, hs⟩ := czs_cons hs0
    obtain ⟨lv, hlv, hcov⟩ := locR_list hL
    rcases cz_isA hv h1 with rfl | ⟨q, rfl⟩
    · exact lv_astore_nN C.1 C.2.1 hdg hi hlv hn rfl (fun ls' hl' => hK E n z _ S M rs h4 he ρ H locs ls' st h0 hE hM hS (locR_st hcov hL.2.2.1 h3 hv hl') hs)
    · exact lv_astore_n C.1 C.2.1 hdg hi hlv hn rfl (fun ls' hl' => hK E n z _ S M rs h4 he ρ H locs ls' st h0 hE hM hS (locR_st hcov hL.2.2.1 h3 hv hl') hs)
theorem ok_istore (C : Cx cc own Ts p l s m args meth c D G A nL) {call : Call} {i : Nat} (hdg : decode cc pc = .ok (.istore i, 2)) (hn : i < nL) (hK : KOK p l e R s m args below meth c Q D G A ρ0 nL Pe (pc + 2) K) : KOK p l e R s m args below meth c Q D G A ρ0 nL Pe pc (op_st isI i call K) := by
  intro E n z L S M rs h he ρ H locs ls st h0 hE hM hS hL hs
  cases S with
  | nil => cases h
  | cons a S =>
    obtain ⟨h1, h2⟩ := gd_some (show gd (isI a) (gd (lk2 L i) (K E n z (nst L i a) S M)) = some rs from h)
    obtain ⟨h3, h4⟩ := gd_some h2
    have hs0 := hs
    clear hs
    obtain ⟨v, st, rfl, hv, hs⟩ := czs_cons hs0
    obtain ⟨lv, hlv, hcov⟩ := locR_list hL
    obtain ⟨x, rfl⟩ := cz_isI hv h1
    exact lv_istore C.1 C.2.1 hdg hlv hn rfl (fun ls' hl' => hK E n z _ S M rs h4 he ρ H locs ls' st h0 hE hM hS (locR_st hcov hL.2.2.1 h3 hv hl') hs)
theorem ok_lstore (C : Cx cc own Ts p l s m args meth c D G A nL) {call : Call} {i : Nat} (hdg : decode cc pc = .ok (.lstore i, 2)) (hn : i + 1 < nL) (hK : KOK p l e R s m args below meth c Q D G A ρ0 nL Pe (pc + 2) K) : KOK p l e R s m args below meth c Q D G A ρ0 nL Pe pc (op_st2 isJ i call K) := by
  intro E n z L S M rs h he ρ H locs ls st h0 hE hM hS hL hs
  cases S with
  | nil => cases h
  | cons a S =>
    obtain ⟨h1, h2⟩ := gd_some (show gd (isJ a) (gd (lk2 L i) (K E n z (nst (nst L i a) (i + 1) (vW 3)) S M)) = some rs from h)
    obtain ⟨h3, h4⟩ := gd_some h2
    have hs0 := hs
    clear hs
    obtain ⟨v, st, rfl, hv, hs⟩ := czs_cons hs0
    obtain ⟨lv, hlv, hcov⟩ := locR_list hL
    obtain ⟨x, rfl⟩ := cz_isJ hv h1
    exact lv_lstore C.1 C.2.1 hdg hlv hn rfl (fun ls' hl' => hK E n z _ S M rs h4 he ρ H locs ls' st h0 hE hM hS (locR_st2 hcov hL.2.2.1 h3 hv hl') hs)
theorem ok_astore (C : Cx cc own Ts p l s m args meth c D G A nL) {call : Call} {i : Nat} (hdg : decode cc pc = .ok (.astore i, 2)) (hn : i < nL) (hK : KOK p l e R s m args below meth c Q D G A ρ0 nL Pe (pc + 2) K) : KOK p l e R s m args below meth c Q D G A ρ0 nL Pe pc (op_st isA i call K) := by
  intro E n z L S M rs h he ρ H locs ls st h0 hE hM hS hL hs
  cases S with
  | nil => cases h
  | cons a S =>
    obtain ⟨h1, h2⟩ := gd_some (show gd (isA a) (gd (lk2 L i) (K E n z (nst L i a) S M)) = some rs from h)
    obtain ⟨h3, h4⟩ := gd_some h2
    have hs0 := hs
    clear hs
    obtain ⟨v, st, rfl, hv, hs⟩ := czs_cons hs0
    obtain ⟨lv, hlv, hcov⟩ := locR_list hL
    rcases cz_isA hv h1 with rfl | ⟨q, rfl⟩
    · exact lv_astoreN C.1 C.2.1 hdg hlv hn rfl (fun ls' hl' => hK E n z _ S M rs h4 he ρ H locs ls' st h0 hE hM hS (locR_st hcov hL.2.2.1 h3 hv hl') hs)
    · exact lv_astore C.1 C.2.1 hdg hlv hn rfl (fun ls' hl' => hK E n z _ S M rs h4 he ρ H locs ls' st h0 hE hM hS (locR_st hcov hL.2.2.1 h3 hv hl') hs)
theorem ok_dstore (C : Cx cc own Ts p l s m args meth c D G A nL) {call : Call} {i : Nat} (hdg : decode cc pc = .ok (.dstore i, 2)) (hn : i + 1 < nL) (hK : KOK p l e R s m args below meth c Q D G A ρ0 nL Pe (pc + 2) K) : KOK p l e R s m args below meth c Q D G A ρ0 nL Pe pc (op_st2 isD i call K) := by
  intro E n z L S M rs h he ρ H locs ls st h0 hE hM hS hL hs
  cases S with
  | nil => cases h
  | cons a S =>
    obtain ⟨h1, h2⟩ := gd_some (show gd (isD a) (gd (lk2 L i) (K E n z (nst (nst L i a) (i + 1) (vW 3)) S M)) = some rs from h)
    obtain ⟨h3, h4⟩ := gd_some h2
    have hs0 := hs
    clear hs
    obtain ⟨v, st, rfl, hv, hs⟩ := czs_cons hs0
    obtain ⟨lv, hlv, hcov⟩ := locR_list hL
    obtain ⟨x, rfl⟩ := cz_isD hv h1
    exact lv_dstore C.1 C.2.1 hdg hlv hn rfl (fun ls' hl' => hK E n z _ S M rs h4 he ρ H locs ls' st h0 hE hM hS (locR_st2 hcov hL.2.2.1 h3 hv hl') hs)
theorem ok_iinc (C : Cx cc own Ts p l s m args meth c D G A nL) {call : Call} {i x : Nat} {d : Int} (hdg : decode cc pc = .ok (.iinc i d, 3)) (hv : Int32.ofInt d = nI x) (hK : KOK p l e R s m args below meth c Q D G A ρ0 nL Pe (pc + 3) K) : KOK p l e R s m args below meth c Q D G A ρ0 nL Pe pc (op_iinc i x call K) := by
  intro E n z L S M rs h he ρ H locs ls st h0 hE hM hS hL hs
  obtain ⟨h1, h2⟩ := gd_some (show gd (isI (nth L i)) (gd (lk2 L i) (addK (nth L i) (vI x) fun r => K E n z (nst L i r) S M)) = some rs from h)
  obtain ⟨h3, h4⟩ := gd_some h2
  obtain ⟨lv, hlv, hcov⟩ := locR_list hL
  have hne : nth L i ≠ vW 3 := fun q => by rw [q] at h1; cases h1
  rcases hcov i with q | ⟨v, hv1, hmem⟩
  · exact absurd q hne
  obtain ⟨y, rfl⟩ := cz_isI hv1 h1
  obtain ⟨w, hw, hcw⟩ := addK_ok h4 hv1 (show cz G ρ (vI x) (.int (nI x)) from rfl)
  obtain ⟨k, hk⟩ := List.getElem?_of_mem hmem
  exact lv_iinc C.1 C.2.1 hdg hlv hk (by rw [hv]) (loc_lt hL hne) rfl (fun ls' hl' => hK E n z _ S M rs hw he ρ H locs ls' st h0 hE hM hS (locR_st hcov hL.2.2.1 h3 hcw hl') hs)
theorem ok_iadd (C : Cx cc own Ts p l s m args meth c D G A nL) {call : Call} (hdg : decode cc pc = .ok (.iadd, 1)) (hK : KOK p l e R s m args below meth c Q D G A ρ0 nL Pe (pc + 1) K) : KOK p l e R s m args below meth c Q D G A ρ0 nL Pe pc (op_add call K) := by
  intro E n z L S M rs h he ρ H locs ls st h0 hE hM hS hL hs
  rcases S with _ | ⟨b, _ | ⟨a, S⟩⟩
  · cases h
  · cases h
  obtain ⟨h1, h2⟩ := gd_some (show gd (isI a) (gd (isI b) (addK a b fun r => K E n z L (r :: S) M)) = some rs from h)
  obtain ⟨h3, h4⟩ := gd_some h2
  have hs0 := hs
  clear hs
  obtain ⟨v, st1, rfl, hv, hs1⟩ := czs_cons hs0
  obtain ⟨u, st, rfl, hu, hs⟩ := czs_cons hs1
  obtain ⟨y, rfl⟩ := cz_isI hv h3
  obtain ⟨x, rfl⟩ := cz_isI hu h1
  obtain ⟨w, hw, hcw⟩ := addK_ok h4 hu hv
  exact lv_iadd C.1 C.2.1 hdg (hK E n z L _ M rs hw he ρ H locs ls _ h0 hE hM hS hL ⟨hcw, hs⟩)
noncomputable def g_sub (x y : Nat) : Nat := (x + (4294967296 - y % 4294967296)) % 4294967296
noncomputable def g_imul (x y : Nat) : Nat := toN (nI x * nI y)
noncomputable def g_iand (x y : Nat) : Nat := toN (nI x &&& nI y)
noncomputable def g_ior (x y : Nat) : Nat := toN (nI x ||| nI y)
noncomputable def g_ixor (x y : Nat) : Nat := toN (nI x ^^^ nI y)
noncomputable def g_ishl (x y : Nat) : Nat := toN (nI x <<< (nI y &&& 31))
noncomputable def g_ishr (x y : Nat) : Nat := toN (nI x >>> (nI y &&& 31))
theorem ok_isub (C : Cx cc own Ts p l s m args meth c D G A nL) {call : Call} (hdg : decode cc pc = .ok (.isub, 1)) (hK : KOK p l e R s m args below meth c Q D G A ρ0 nL Pe (pc + 1) K) : KOK p l e R s m args below meth c Q D G A ρ0 nL Pe pc (op_bin g_sub call K) := by
  intro E n z L S M rs h he ρ H locs ls st h0 hE hM hS hL hs
  rcases S with _ | ⟨b, _ | ⟨a, S⟩⟩
  · cases h
  · cases h
  obtain ⟨h1, h2⟩ := gd_some (show gd (isI a) (gd (isI b) (biK g_sub a b fun r => K E n z L (r :: S) M)) = some rs from h)
  obtain ⟨h3, h4⟩ := gd_some h2
  have hs0 := hs
  clear hs
  obtain ⟨v, st1, rfl, hv, hs1⟩ := czs_cons hs0
  obtain ⟨u, st, rfl, hu, hs⟩ := czs_cons hs1
  obtain ⟨y, rfl⟩ := cz_isI hv h3
  obtain ⟨x, rfl⟩ := cz_isI hu h1
  obtain ⟨w, hw, hcw⟩ := biK_ok (op := fun x y => x - y) h4 hu hv nI_sub
  exact lv_isub C.1 C.2.1 hdg (hK E n z L _ M rs hw he ρ H locs ls _ h0 hE hM hS hL ⟨hcw, hs⟩)
theorem ok_imul (C : Cx cc own Ts p l s m args meth c D G A nL) {call : Call} (hdg : decode cc pc = .ok (.imul, 1)) (hK : KOK p l e R s m args below meth c Q D G A ρ0 nL Pe (pc + 1) K) : KOK p l e R s m args below meth c Q D G A ρ0 nL Pe pc (op_bin g_imul call K) := by
  intro E n z L S M rs h he ρ H locs ls st h0 hE hM hS hL hs
  rcases S with _ | ⟨b, _ | ⟨a, S⟩⟩
  · cases h
  · cases h
  obtain ⟨h1, h2⟩ := gd_some (show gd (isI a) (gd (isI b) (biK g_imul a b fun r => K E n z L (r :: S) M)) = some rs from h)
  obtain ⟨h3, h4⟩ := gd_some h2
  have hs0 := hs
  clear hs
  obtain ⟨v, st1, rfl, hv, hs1⟩ := czs_cons hs0
  obtain ⟨u, st, rfl, hu, hs⟩ := czs_cons hs1
  obtain ⟨y, rfl⟩ := cz_isI hv h3
  obtain ⟨x, rfl⟩ := cz_isI hu h1
  obtain ⟨w, hw, hcw⟩ := biK_ok (op := fun x y => x * y) h4 hu hv (fun u v => nI_toN _)
  exact lv_imul C.1 C.2.1 hdg (hK E n z L _ M rs hw he ρ H locs ls _ h0 hE hM hS hL ⟨hcw, hs⟩)
theorem ok_iand (C : Cx cc own Ts p l s m args meth c D G A nL) {call : Call} (hdg : decode cc pc = .ok (.iand, 1)) (hK : KOK p l e R s m args below meth c Q D G A ρ0 nL Pe (pc + 1) K) : KOK p l e R s m args below meth c Q D G A ρ0 nL Pe pc (op_bin g_iand call K) := by
  intro E n z L S M rs h he ρ H locs ls st h0 hE hM hS hL hs
  rcases S with _ | ⟨b, _ | ⟨a, S⟩⟩
  · cases h
  · cases h
  obtain ⟨h1, h2⟩ := gd_some (show gd (isI a) (gd (isI b) (biK g_iand a b fun r => K E n z L (r :: S) M)) = some rs from h)
  obtain ⟨h3, h4⟩ := gd_some h2
  have hs0 := hs
  clear hs
  obtain ⟨v, st1, rfl, hv, hs1⟩ := czs_cons hs0
  obtain ⟨u, st, rfl, hu, hs⟩ := czs_cons hs1
  obtain ⟨y, rfl⟩ := cz_isI hv h3
  obtain ⟨x, rfl⟩ := cz_isI hu h1
  obtain ⟨w, hw, hcw⟩ := biK_ok (op := fun x y => x &&& y) h4 hu hv (fun u v => nI_toN _)
  exact lv_iand C.1 C.2.1 hdg (hK E n z L _ M rs hw he ρ H locs ls _ h0 hE hM hS hL ⟨hcw, hs⟩)
theorem ok_ior (C : Cx cc own Ts p l s m args meth c D G A nL) {call : Call} (hdg : decode cc pc = .ok (.ior, 1)) (hK : KOK p l e R s m args below meth c Q D G A ρ0 nL Pe (pc + 1) K) : KOK p l e R s m args below meth c Q D G A ρ0 nL Pe pc (op_bin g_ior call K) := by
  intro E n z L S M rs h he ρ H locs ls st h0 hE hM hS hL hs
  rcases S with _ | ⟨b, _ | ⟨a, S⟩⟩
  · cases h
  · cases h
  obtain ⟨h1, h2⟩ := gd_some (show gd (isI a) (gd (isI b) (biK g_ior a b fun r => K E n z L (r :: S) M)) = some rs from h)
  obtain ⟨h3, h4⟩ := gd_some h2
  have hs0 := hs
  clear hs
  obtain ⟨v, st1, rfl, hv, hs1⟩ := czs_cons hs0
  obtain ⟨u, st, rfl, hu, hs⟩ := czs_cons hs1
  obtain ⟨y, rfl⟩ := cz_isI hv h3
  obtain ⟨x, rfl⟩ := cz_isI hu h1
  obtain ⟨w, hw, hcw⟩ := biK_ok (op := fun x y => x ||| y) h4 hu hv (fun u v => nI_toN _)
  exact lv_ior C.1 C.2.1 hdg (hK E n z L _ M rs hw he ρ H locs ls _ h0 hE hM hS hL ⟨hcw, hs⟩)
theorem ok_ixor (C : Cx cc own Ts p l s m args meth c D G A nL) {call : Call} (hdg : decode cc pc = .ok (.ixor, 1)) (hK : KOK p l e R s m args below meth c Q D G A ρ0 nL Pe (pc + 1) K) : KOK p l e R s m args below meth c Q D G A ρ0 nL Pe pc (op_bin g_ixor call K) := by
  intro E n z L S M rs h he ρ H locs ls st h0 hE hM hS hL hs
  rcases S with _ | ⟨b, _ | ⟨a, S⟩⟩
  · cases h
  · cases h
  obtain ⟨h1, h2⟩ := gd_some (show gd (isI a) (gd (isI b) (biK g_ixor a b fun r => K E n z L (r :: S) M)) = some rs from h)
  obtain ⟨h3, h4⟩ := gd_some h2
  have hs0 := hs
  clear hs
  obtain ⟨v, st1, rfl, hv, hs1⟩ := czs_cons hs0
  obtain ⟨u, st, rfl, hu, hs⟩ := czs_cons hs1
  obtain ⟨y, rfl⟩ := cz_isI hv h3
  obtain ⟨x, rfl⟩ := cz_isI hu h1
  obtain ⟨w, hw, hcw⟩ := biK_ok (op := fun x y => x ^^^ y) h4 hu hv (fun u v => nI_toN _)
  exact lv_ixor C.1 C.2.1 hdg (hK E n z L _ M rs hw he ρ H locs ls _ h0 hE hM hS hL ⟨hcw, hs⟩)
theorem ok_ishl (C : Cx cc own Ts p l s m args meth c D G A nL) {call : Call} (hdg : decode cc pc = .ok (.ishl, 1)) (hK : KOK p l e R s m args below meth c Q D G A ρ0 nL Pe (pc + 1) K) : KOK p l e R s m args below meth c Q D G A ρ0 nL Pe pc (op_bin g_ishl call K) := by
  intro E n z L S M rs h he ρ H locs ls st h0 hE hM hS hL hs
  rcases S with _ | ⟨b, _ | ⟨a, S⟩⟩
  · cases h
  · cases h
  obtain ⟨h1, h2⟩ := gd_some (show gd (isI a) (gd (isI b) (biK g_ishl a b fun r => K E n z L (r :: S) M)) = some rs from h)
  obtain ⟨h3, h4⟩ := gd_some h2
  have hs0 := hs
  clear hs
  obtain ⟨v, st1, rfl, hv, hs1⟩ := czs_cons hs0
  obtain ⟨u, st, rfl, hu, hs⟩ := czs_cons hs1
  obtain ⟨y, rfl⟩ := cz_isI hv h3
  obtain ⟨x, rfl⟩ := cz_isI hu h1
  obtain ⟨w, hw, hcw⟩ := biK_ok (op := fun x y => x <<< (y &&& 31)) h4 hu hv (fun u v => nI_toN _)
  exact lv_ishl C.1 C.2.1 hdg (hK E n z L _ M rs hw he ρ H locs ls _ h0 hE hM hS hL ⟨hcw, hs⟩)
theorem ok_ishr (C : Cx cc own Ts p l s m args meth c D G A nL) {call : Call} (hdg : decode cc pc = .ok (.ishr, 1)) (hK : KOK p l e R s m args below meth c Q D G A ρ0 nL Pe (pc + 1) K) : KOK p l e R s m args below meth c Q D G A ρ0 nL Pe pc (op_bin g_ishr call K) := by
  intro E n z L S M rs h he ρ H locs ls st h0 hE hM hS hL hs
  rcases S with _ | ⟨b, _ | ⟨a, S⟩⟩
  · cases h
  · cases h
  obtain ⟨h1, h2⟩ := gd_some (show gd (isI a) (gd (isI b) (biK g_ishr a b fun r => K E n z L (r :: S) M)) = some rs from h)
  obtain ⟨h3, h4⟩ := gd_some h2
  have hs0 := hs
  clear hs
  obtain ⟨v, st1, rfl, hv, hs1⟩ := czs_cons hs0
  obtain ⟨u, st, rfl, hu, hs⟩ := czs_cons hs1
  obtain ⟨y, rfl⟩ := cz_isI hv h3
  obtain ⟨x, rfl⟩ := cz_isI hu h1
  obtain ⟨w, hw, hcw⟩ := biK_ok (op := fun x y => x >>> (y &&& 31)) h4 hu hv (fun u v => nI_toN _)
  exact lv_ishr C.1 C.2.1 hdg (hK E n z L _ M rs hw he ρ H locs ls _ h0 hE hM hS hL ⟨hcw, hs⟩)
noncomputable def g_ineg (x : Nat) : Nat := toN (-(nI x))
theorem ok_ineg (C : Cx cc own Ts p l s m args meth c D G A nL) {call : Call} (hdg : decode cc pc = .ok (.ineg, 1)) (hK : KOK p l e R s m args below meth c Q D G A ρ0 nL Pe (pc + 1) K) : KOK p l e R s m args below meth c Q D G A ρ0 nL Pe pc (op_un g_ineg call K) := by
  intro E n z L S M rs h he ρ H locs ls st h0 hE hM hS hL hs
  rcases S with _ | ⟨a, S⟩
  · cases h
  obtain ⟨h1, h2⟩ := gd_some (show gd (isI a) (unK g_ineg a fun r => K E n z L (r :: S) M) = some rs from h)
  have hs0 := hs
  clear hs
  obtain ⟨u, st, rfl, hu, hs⟩ := czs_cons hs0
  obtain ⟨x, rfl⟩ := cz_isI hu h1
  obtain ⟨w, hw, hcw⟩ := unK_ok (op := fun x => -x) h2 hu (fun u => nI_toN _)
  exact lv_ineg C.1 C.2.1 hdg (hK E n z L _ M rs hw he ρ H locs ls _ h0 hE hM hS hL ⟨hcw, hs⟩)
noncomputable def g_i2b (x : Nat) : Nat := toN ((nI x).toInt8.toInt32)
theorem ok_i2b (C : Cx cc own Ts p l s m args meth c D G A nL) {call : Call} (hdg : decode cc pc = .ok (.i2b, 1)) (hK : KOK p l e R s m args below meth c Q D G A ρ0 nL Pe (pc + 1) K) : KOK p l e R s m args below meth c Q D G A ρ0 nL Pe pc (op_un g_i2b call K) := by
  intro E n z L S M rs h he ρ H locs ls st h0 hE hM hS hL hs
  rcases S with _ | ⟨a, S⟩
  · cases h
  obtain ⟨h1, h2⟩ := gd_some (show gd (isI a) (unK g_i2b a fun r => K E n z L (r :: S) M) = some rs from h)
  have hs0 := hs
  clear hs
  obtain ⟨u, st, rfl, hu, hs⟩ := czs_cons hs0
  obtain ⟨x, rfl⟩ := cz_isI hu h1
  obtain ⟨w, hw, hcw⟩ := unK_ok (op := fun x => x.toInt8.toInt32) h2 hu (fun u => nI_toN _)
  exact lv_i2b C.1 C.2.1 hdg rfl (hK E n z L _ M rs hw he ρ H locs ls _ h0 hE hM hS hL ⟨hcw, hs⟩)
noncomputable def g_i2c (x : Nat) : Nat := toN (((nI x).toUInt32 % 65536).toInt32)
theorem ok_i2c (C : Cx cc own Ts p l s m args meth c D G A nL) {call : Call} (hdg : decode cc pc = .ok (.i2c, 1)) (hK : KOK p l e R s m args below meth c Q D G A ρ0 nL Pe (pc + 1) K) : KOK p l e R s m args below meth c Q D G A ρ0 nL Pe pc (op_un g_i2c call K) := by
  intro E n z L S M rs h he ρ H locs ls st h0 hE hM hS hL hs
  rcases S with _ | ⟨a, S⟩
  · cases h
  obtain ⟨h1, h2⟩ := gd_some (show gd (isI a) (unK g_i2c a fun r => K E n z L (r :: S) M) = some rs from h)
  have hs0 := hs
  clear hs
  obtain ⟨u, st, rfl, hu, hs⟩ := czs_cons hs0
  obtain ⟨x, rfl⟩ := cz_isI hu h1
  obtain ⟨w, hw, hcw⟩ := unK_ok (op := fun x => (x.toUInt32 % 65536).toInt32) h2 hu (fun u => nI_toN _)
  exact lv_i2c C.1 C.2.1 hdg rfl (hK E n z L _ M rs hw he ρ H locs ls _ h0 hE hM hS hL ⟨hcw, hs⟩)
theorem rem6_is {E : Env9} {a : AV} {y : Nat} (h : rem6 E a y = true) : a = vX (some (1, 0)) ∧ y = 3 ∧ Nat.beq (nthE E 4000).1 (nthE E 4000).2 = true := by
  rcases a with n | k | n | o | i | w | n | n
  · cases h
  · cases h
  · cases h
  · cases o with
    | none => cases h
    | some o =>
      obtain ⟨o1, o2⟩ := o
      have h' : (Bool.rec false (Bool.rec false (Bool.rec false (Nat.beq (nthE E 4000).1 (nthE E 4000).2) (Nat.beq y 3)) (Nat.beq o2 0)) (Nat.beq o1 1) : Bool) = true := h
      cases q1 : Nat.beq o1 1 with
      | false => rw [q1] at h'; cases h'
      | true =>
        rw [q1] at h'
        cases q2 : Nat.beq o2 0 with
        | false => rw [q2] at h'; cases h'
        | true =>
          rw [q2] at h'
          cases q3 : Nat.beq y 3 with
          | false => rw [q3] at h'; cases h'
          | true =>
            rw [q3] at h'
            rw [Nat.eq_of_beq_eq_true q1, Nat.eq_of_beq_eq_true q2]
            exact ⟨rfl, Nat.eq_of_beq_eq_true q3, h'⟩
  all_goals cases h
theorem ok_irem (C : Cx cc own Ts p l s m args meth c D G A nL) {call : Call} (hdg : decode cc pc = .ok (.irem, 1)) (hK : KOK p l e R s m args below meth c Q D G A ρ0 nL Pe (pc + 1) K) : KOK p l e R s m args below meth c Q D G A ρ0 nL Pe pc (op_irem call K) := by
  intro E n z L S M rs h he ρ H locs ls st h0 hE hM hS hL hs
  rcases S with _ | ⟨b, _ | ⟨a, S⟩⟩
  · cases h
  · cases h
  rcases b with y | k | k | o | i | w | k | k
  · obtain ⟨h1, h2⟩ := gd_some (show gd (isI a) (gd (Nat.ble 1 (y % 4294967296)) (Bool.rec (biK (fun x y => toN (nI x - nI x / nI y * nI y)) a (.inl y) fun r => K E n z L (r :: S) M) (K E n z L (vI (bi (nthE E 4000).1) :: S) M) (rem6 E a y))) = some rs from h)
    obtain ⟨h3, h4⟩ := gd_some h2
    have hs0 := hs
    clear hs
    obtain ⟨v, st1, rfl, hv, hs1⟩ := czs_cons hs0
    obtain ⟨u, st, rfl, hu, hs⟩ := czs_cons hs1
    obtain ⟨x, rfl⟩ := cz_isI hu h1
    have hv' : v = .int (nI y) := hv
    subst hv'
    have hne : nI y ≠ 0 := by
      intro q
      have q1 := Nat.le_of_ble_eq_true h3
      have q2 := (nI_eq_iff y 0).mp q
      unfold bi at q2
      omega
    cases h6 : rem6 E a y with
    | false =>
      rw [h6] at h4
      obtain ⟨w, hw, hcw⟩ := biK_ok (op := fun x y => x - x / y * y) (show biK (fun x y => toN (nI x - nI x / nI y * nI y)) a (.inl y) (fun r => K E n z L (r :: S) M) = some rs from h4) hu hv (fun u v => nI_toN _)
      exact lv_irem C.1 C.2.1 hdg hne (hK E n z L _ M rs hw he ρ H locs ls _ h0 hE hM hS hL ⟨hcw, hs⟩)
    | true =>
      rw [h6] at h4
      have h4' : K E n z L (vI (bi (nthE E 4000).1) :: S) M = some rs := h4
      obtain ⟨ha, hy, hp⟩ := rem6_is h6
      refine lv_irem C.1 C.2.1 hdg hne (hK E n z L _ M rs h4' he ρ H locs ls _ h0 hE hM hS hL ⟨?_, hs⟩)
      subst ha; subst hy
      have hx : x = G.1 1 + nI 0 := Value.int.inj hu
      have hx' : x = G.1 1 := by rw [hx]; show G.1 1 + 0 = G.1 1; simp
      show Value.int _ = .int (nI (bi (nthE E 4000).1))
      rw [← envR_pt hE hp, hE.2, hx']
      rfl
  all_goals (obtain ⟨h1, h2⟩ := gd_some (show gd (isI a) none = some rs from h); cases h2)
theorem ok_dup (C : Cx cc own Ts p l s m args meth c D G A nL) {call : Call} (hdg : decode cc pc = .ok (.dup, 1)) (hK : KOK p l e R s m args below meth c Q D G A ρ0 nL Pe (pc + 1) K) : KOK p l e R s m args below meth c Q D G A ρ0 nL Pe pc (op_dup call K) := by
  intro E n z L S M rs h he ρ H locs ls st h0 hE hM hS hL hs
  rcases S with _ | ⟨a, S⟩
  · cases h
  obtain ⟨h1, h2⟩ := gd_some (show gd (Bool.rec true false (isC2 a)) (K E n z L (a :: a :: S) M) = some rs from h)
  have hs0 := hs
  clear hs
  obtain ⟨u, st, rfl, hu, hs⟩ := czs_cons hs0
  exact lv_dup C.1 C.2.1 hdg (cz_c1 hu (nc2 h1)) (hK E n z L _ M rs h2 he ρ H locs ls _ h0 hE hM hS hL ⟨hu, hu, hs⟩)
theorem ok_pop (C : Cx cc own Ts p l s m args meth c D G A nL) {call : Call} (hdg : decode cc pc = .ok (.pop, 1)) (hK : KOK p l e R s m args below meth c Q D G A ρ0 nL Pe (pc + 1) K) : KOK p l e R s m args below meth c Q D G A ρ0 nL Pe pc (op_pop call K) := by
  intro E n z L S M rs h he ρ H locs ls st h0 hE hM hS hL hs
  rcases S with _ | ⟨a, S⟩
  · cases h
  obtain ⟨h1, h2⟩ := gd_some (show gd (Bool.rec true false (isC2 a)) (K E n z L S M) = some rs from h)
  have hs0 := hs
  clear hs
  obtain ⟨u, st, rfl, hu, hs⟩ := czs_cons hs0
  exact lv_pop C.1 C.2.1 hdg (cz_c1 hu (nc2 h1)) (hK E n z L _ M rs h2 he ρ H locs ls _ h0 hE hM hS hL hs)
theorem ok_dup2 (C : Cx cc own Ts p l s m args meth c D G A nL) {call : Call} (hdg : decode cc pc = .ok (.dup2, 1)) (hK : KOK p l e R s m args below meth c Q D G A ρ0 nL Pe (pc + 1) K) : KOK p l e R s m args below meth c Q D G A ρ0 nL Pe pc (op_dup2 call K) := by
  intro E n z L S M rs h he ρ H locs ls st h0 hE hM hS hL hs
  rcases S with _ | ⟨a, _ | ⟨b, S⟩⟩
  · cases h
  · cases h
  obtain ⟨h1, h2⟩ := gd_some (show gd (Bool.rec true false (isC2 a)) (gd (Bool.rec true false (isC2 b)) (K E n z L (a :: b :: a :: b :: S) M)) = some rs from h)
  obtain ⟨h3, h4⟩ := gd_some h2
  have hs0 := hs
  clear hs
  obtain ⟨u, st1, rfl, hu, hs1⟩ := czs_cons hs0
  obtain ⟨v, st, rfl, hv, hs⟩ := czs_cons hs1
  exact lv_dup2_11 C.1 C.2.1 hdg (cz_c1 hu (nc2 h1)) (cz_c1 hv (nc2 h3)) (hK E n z L _ M rs h4 he ρ H locs ls _ h0 hE hM hS hL ⟨hu, hv, hu, hv, hs⟩)
theorem ok_i2l (C : Cx cc own Ts p l s m args meth c D G A nL) {call : Call} (hdg : decode cc pc = .ok (.i2l, 1)) (hK : KOK p l e R s m args below meth c Q D G A ρ0 nL Pe (pc + 1) K) : KOK p l e R s m args below meth c Q D G A ρ0 nL Pe pc (op_i2l call K) := by
  intro E n z L S M rs h he ρ H locs ls st h0 hE hM hS hL hs
  rcases S with _ | ⟨a, S⟩
  · cases h
  have hs0 := hs
  clear hs
  obtain ⟨u, st, rfl, hu, hs⟩ := czs_cons hs0
  rcases a with y | k | k | o | i | w | k | k
  · have h' : fN (toNL (nI y).toInt64) (fun r => K E n z L (vJ r :: S) M) = some rs := h
    rw [fN_eq] at h'
    have hu' : u = .int (nI y) := hu
    subst hu'
    exact lv_i2l C.1 C.2.1 hdg rfl (hK E n z L _ M rs h' he ρ H locs ls _ h0 hE hM hS hL ⟨(by show Value.long _ = .long (lN (toNL _)); rw [lN_toN]), hs⟩)
  · cases h
  · cases h
  · cases o with
    | none => cases h
    | some o =>
      obtain ⟨h1, h2⟩ := gd_some (show gd (Nat.ble (o.1 + 1) 16) (fN (o.1 + 16 * o.2) fun r => K E n z L (vL r :: S) M) = some rs from h)
      rw [fN_eq] at h2
      have h3 := Nat.le_of_ble_eq_true h1
      have hu' : u = .int (G.1 o.1 + nI o.2) := hu
      subst hu'
      have e1 : (o.1 + 16 * o.2) % 16 = o.1 := by omega
      have e2 : (o.1 + 16 * o.2) / 16 = o.2 := by omega
      exact lv_i2l C.1 C.2.1 hdg rfl (hK E n z L _ M rs h2 he ρ H locs ls _ h0 hE hM hS hL ⟨(by show Value.long _ = .long (G.1 ((o.1 + 16 * o.2) % 16) + nI ((o.1 + 16 * o.2) / 16)).toInt64; rw [e1, e2]), hs⟩)
  all_goals cases h
theorem ok_l2i (C : Cx cc own Ts p l s m args meth c D G A nL) {call : Call} (hdg : decode cc pc = .ok (.l2i, 1)) (hK : KOK p l e R s m args below meth c Q D G A ρ0 nL Pe (pc + 1) K) : KOK p l e R s m args below meth c Q D G A ρ0 nL Pe pc (op_l2i call K) := by
  intro E n z L S M rs h he ρ H locs ls st h0 hE hM hS hL hs
  rcases S with _ | ⟨a, S⟩
  · cases h
  have hs0 := hs
  clear hs
  obtain ⟨u, st, rfl, hu, hs⟩ := czs_cons hs0
  rcases a with y | k | k | o | i | w | k | k
  · cases h
  · cases h
  · have h' : fN (toN (lN k).toInt32) (fun r => K E n z L (vI r :: S) M) = some rs := h
    rw [fN_eq] at h'
    have hu' : u = .long (lN k) := hu
    subst hu'
    exact lv_l2i C.1 C.2.1 hdg rfl (hK E n z L _ M rs h' he ρ H locs ls _ h0 hE hM hS hL ⟨(by show Value.int _ = .int (nI (toN _)); rw [nI_toN]), hs⟩)
  all_goals cases h
noncomputable def g_lor (x y : Nat) : Nat := toNL (lN x ||| lN y)
noncomputable def g_lshl (x y : Nat) : Nat := toNL (lN x <<< ((nI y).toInt64 &&& 63))
noncomputable def g_lshr (x y : Nat) : Nat := toNL (lN x >>> ((nI y).toInt64 &&& 63))
theorem ok_lor (C : Cx cc own Ts p l s m args meth c D G A nL) {call : Call} (hdg : decode cc pc = .ok (.lor, 1)) (hK : KOK p l e R s m args below meth c Q D G A ρ0 nL Pe (pc + 1) K) : KOK p l e R s m args below meth c Q D G A ρ0 nL Pe pc (op_lbin g_lor call K) := by
  intro E n z L S M rs h he ρ H locs ls st h0 hE hM hS hL hs
  rcases S with _ | ⟨b, _ | ⟨a, S⟩⟩
  · cases h
  · rcases b with y | k | k | o | i | w | k | k <;> cases h
  have hs0 := hs
  clear hs
  obtain ⟨v, st1, rfl, hv, hs1⟩ := czs_cons hs0
  obtain ⟨u, st, rfl, hu, hs⟩ := czs_cons hs1
  rcases b with y | k | y' | o | i | w | k | k
  · rcases a with x | k | x | o | i | w | k | k <;> cases h
  · rcases a with x | k | x | o | i | w | k | k <;> cases h
  · rcases a with x | k | x | o | i | w | k | k
    · cases h
    · cases h
    · have h' : fN (g_lor x y') (fun r => K E n z L (vJ r :: S) M) = some rs := h
      rw [fN_eq] at h'
      have hu' : u = .long (lN x) := hu
      have hv' : v = .long (lN y') := hv
      subst hu'; subst hv'
      exact lv_lor C.1 C.2.1 hdg (hK E n z L _ M rs h' he ρ H locs ls _ h0 hE hM hS hL ⟨(by show Value.long _ = .long (lN (toNL _)); rw [lN_toN]), hs⟩)
    all_goals cases h
  all_goals (rcases a with x | k | x | o | i | w | k | k <;> cases h)
theorem ok_lshl (C : Cx cc own Ts p l s m args meth c D G A nL) {call : Call} (hdg : decode cc pc = .ok (.lshl, 1)) (hK : KOK p l e R s m args below meth c Q D G A ρ0 nL Pe (pc + 1) K) : KOK p l e R s m args below meth c Q D G A ρ0 nL Pe pc (op_lsh g_lshl call K) := by
  intro E n z L S M rs h he ρ H locs ls st h0 hE hM hS hL hs
  rcases S with _ | ⟨b, _ | ⟨a, S⟩⟩
  · cases h
  · rcases b with y | k | k | o | i | w | k | k <;> cases h
  have hs0 := hs
  clear hs
  obtain ⟨v, st1, rfl, hv, hs1⟩ := czs_cons hs0
  obtain ⟨u, st, rfl, hu, hs⟩ := czs_cons hs1
  rcases b with y | k | y' | o | i | w | k | k
  · rcases a with x | k | x | o | i | w | k | k
    · cases h
    · cases h
    · have h' : fN (g_lshl x y) (fun r => K E n z L (vJ r :: S) M) = some rs := h
      rw [fN_eq] at h'
      have hu' : u = .long (lN x) := hu
      have hv' : v = .int (nI y) := hv
      subst hu'; subst hv'
      exact lv_lshl C.1 C.2.1 hdg rfl (hK E n z L _ M rs h' he ρ H locs ls _ h0 hE hM hS hL ⟨(by show Value.long _ = .long (lN (toNL _)); rw [lN_toN]), hs⟩)
    all_goals cases h
  all_goals (rcases a with x | k | x | o | i | w | k | k <;> cases h)
theorem ok_lshr (C : Cx cc own Ts p l s m args meth c D G A nL) {call : Call} (hdg : decode cc pc = .ok (.lshr, 1)) (hK : KOK p l e R s m args below meth c Q D G A ρ0 nL Pe (pc + 1) K) : KOK p l e R s m args below meth c Q D G A ρ0 nL Pe pc (op_lsh g_lshr call K) := by
  intro E n z L S M rs h he ρ H locs ls st h0 hE hM hS hL hs
  rcases S with _ | ⟨b, _ | ⟨a, S⟩⟩
  · cases h
  · rcases b with y | k | k | o | i | w | k | k <;> cases h
  have hs0 := hs
  clear hs
  obtain ⟨v, st1, rfl, hv, hs1⟩ := czs_cons hs0
  obtain ⟨u, st, rfl, hu, hs⟩ := czs_cons hs1
  rcases b with y | k | y' | o | i | w | k | k
  · rcases a with x | k | x | o | i | w | k | k
    · cases h
    · cases h
    · have h' : fN (g_lshr x y) (fun r => K E n z L (vJ r :: S) M) = some rs := h
      rw [fN_eq] at h'
      have hu' : u = .long (lN x) := hu
      have hv' : v = .int (nI y) := hv
      subst hu'; subst hv'
      exact lv_lshr C.1 C.2.1 hdg rfl (hK E n z L _ M rs h' he ρ H locs ls _ h0 hE hM hS hL ⟨(by show Value.long _ = .long (lN (toNL _)); rw [lN_toN]), hs⟩)
    all_goals cases h
  all_goals (rcases a with x | k | x | o | i | w | k | k <;> cases h)
theorem go_of {pc' : Nat} {J : KK} {L S : List AV} {M : Mem} {n z : Nat} {rs : List Res} {k : Env9 → OR} (hk : ∀ E, k E = J E n z L S M) (hJ : KOK p l e R s m args below meth c Q D G A ρ0 nL Pe pc' J) (he : ∀ r ∈ rs, Pe r) (ht : tak G rs k) : ∃ E', envR G E' ∧ WW p l e R s m args below meth c Q D G A ρ0 nL pc' E' n z L S M := by
  obtain ⟨E', rs', h1, h2, h3⟩ := ht
  rw [hk] at h1
  exact ⟨E', h3, hJ E' n z L S M rs' h1 (fun r hr => he r (h2 r hr))⟩
theorem ok_goto (C : Cx cc own Ts p l s m args meth c D G A nL) {call : Call} {j : Jmp} {b tgt : Nat} {off : Int} (hdg : decode cc pc = .ok (.goto off, 3)) (ht : (pc : Int) + off = (tgt : Int)) (hJ : KOK p l e R s m args below meth c Q D G A ρ0 nL Pe tgt (j b)) : KOK p l e R s m args below meth c Q D G A ρ0 nL Pe pc (tm_goto b call j) := by
  intro E n z L S M rs h he ρ H locs ls st h0 hE hM hS hL hs
  exact lv_goto C.1 C.2.1 hdg ht (hJ E n z L S M rs h he ρ H locs ls st h0 hE hM hS hL hs)
theorem ok_next {call : Call} {j : Jmp} {b : Nat} (hJ : KOK p l e R s m args below meth c Q D G A ρ0 nL Pe pc (j b)) : KOK p l e R s m args below meth c Q D G A ρ0 nL Pe pc (tm_goto b call j) := hJ
theorem ok_icmp_eq (C : Cx cc own Ts p l s m args meth c D G A nL) {call : Call} {j : Jmp} {bt bf tgt : Nat} {off : Int} (hdg : decode cc pc = .ok (.if_icmp .eq off, 3)) (ht : (pc : Int) + off = (tgt : Int)) (hT : KOK p l e R s m args below meth c Q D G A ρ0 nL Pe tgt (j bt)) (hF : KOK p l e R s m args below meth c Q D G A ρ0 nL Pe (pc + 3) (j bf)) : KOK p l e R s m args below meth c Q D G A ρ0 nL Pe pc (tm_icmp bf bt bf call j) := by
  intro E n z L S M rs h he ρ H locs ls st h0 hE hM hS hL hs
  rcases S with _ | ⟨b, _ | ⟨a, S⟩⟩
  · cases h
  · cases h
  have hs0 := hs
  clear hs
  obtain ⟨v, st1, rfl, hv, hs1⟩ := czs_cons hs0
  obtain ⟨u, st, rfl, hu, hs⟩ := czs_cons hs1
  have h' : cmp3 a b E (fun E => j bf E n z L S M) (fun E => j bt E n z L S M) (fun E => j bf E n z L S M) = some rs := h
  have hi : (∃ x, u = .int x) ∧ ∃ y, v = .int y := cmp3_int h' hu hv
  obtain ⟨⟨x, rfl⟩, ⟨y, rfl⟩⟩ := hi
  obtain ⟨k1, k2, k3⟩ := cmp3_ok h' hE hu hv
  exact lv_icmp_eq C.1 C.2.1 hdg ht
   (fun hq => by
    rcases i32_tri x y with t | t | t
    · exact absurd hq (by intro hq; simp only [i32_lt, i32_le, ← Int32.toInt_inj, Int32.toInt_zero, ne_eq] at hq t; omega)
    · obtain ⟨E', g1, g2⟩ := go_of (fun _ => rfl) hT he (k2 t)
      exact g2 ρ H locs ls st h0 g1 hM hS hL hs
    · exact absurd hq (by intro hq; simp only [i32_lt, i32_le, ← Int32.toInt_inj, Int32.toInt_zero, ne_eq] at hq t; omega))
   (fun hq => by
    rcases i32_tri x y with t | t | t
    · obtain ⟨E', g1, g2⟩ := go_of (fun _ => rfl) hF he (k1 t)
      exact g2 ρ H locs ls st h0 g1 hM hS hL hs
    · exact absurd hq (by intro hq; simp only [i32_lt, i32_le, ← Int32.toInt_inj, Int32.toInt_zero, ne_eq] at hq t; omega)
    · obtain ⟨E', g1, g2⟩ := go_of (fun _ => rfl) hF he (k3 t)
      exact g2 ρ H locs ls st h0 g1 hM hS hL hs)
theorem ok_if_eq (C : Cx cc own Ts p l s m args meth c D G A nL) {call : Call} {j : Jmp} {bt bf tgt : Nat} {off : Int} (hdg : decode cc pc = .ok (.ifCond .eq off, 3)) (ht : (pc : Int) + off = (tgt : Int)) (hT : KOK p l e R s m args below meth c Q D G A ρ0 nL Pe tgt (j bt)) (hF : KOK p l e R s m args below meth c Q D G A ρ0 nL Pe (pc + 3) (j bf)) : KOK p l e R s m args below meth c Q D G A ρ0 nL Pe pc (tm_if bf bt bf call j) := by
  intro E n z L S M rs h he ρ H locs ls st h0 hE hM hS hL hs
  rcases S with _ | ⟨a, S⟩
  · cases h
  have hs0 := hs
  clear hs
  obtain ⟨u, st, rfl, hu, hs⟩ := czs_cons hs0
  have hi : ∃ x, u = .int x := by
    rcases a with x | k | x | o | i | w | k | k
    · exact ⟨_, hu⟩
    · cases h
    · cases h
    · cases o with
      | none => cases h
      | some o => exact ⟨_, hu⟩
    all_goals cases h
  obtain ⟨x, rfl⟩ := hi
  have h' : cmp3 a (vI 0) E (fun E => j bf E n z L S M) (fun E => j bt E n z L S M) (fun E => j bf E n z L S M) = some rs := h
  obtain ⟨k1, k2, k3⟩ := cmp3_ok (y := 0) h' hE hu (show cz G ρ (vI 0) (.int 0) from rfl)
  exact lv_if_eq C.1 C.2.1 hdg ht
   (fun hq => by
    rcases i32_tri x 0 with t | t | t
    · exact absurd hq (by intro hq; simp only [i32_lt, i32_le, ← Int32.toInt_inj, Int32.toInt_zero, ne_eq] at hq t; omega)
    · obtain ⟨E', g1, g2⟩ := go_of (fun _ => rfl) hT he (k2 t)
      exact g2 ρ H locs ls st h0 g1 hM hS hL hs
    · exact absurd hq (by intro hq; simp only [i32_lt, i32_le, ← Int32.toInt_inj, Int32.toInt_zero, ne_eq] at hq t; omega))
   (fun hq => by
    rcases i32_tri x 0 with t | t | t
    · obtain ⟨E', g1, g2⟩ := go_of (fun _ => rfl) hF he (k1 t)
      exact g2 ρ H locs ls st h0 g1 hM hS hL hs
    · exact absurd hq (by intro hq; simp only [i32_lt, i32_le, ← Int32.toInt_inj, Int32.toInt_zero, ne_eq] at hq t; omega)
    · obtain ⟨E', g1, g2⟩ := go_of (fun _ => rfl) hF he (k3 t)
      exact g2 ρ H locs ls st h0 g1 hM hS hL hs)
theorem ok_icmp_ne (C : Cx cc own Ts p l s m args meth c D G A nL) {call : Call} {j : Jmp} {bt bf tgt : Nat} {off : Int} (hdg : decode cc pc = .ok (.if_icmp .ne off, 3)) (ht : (pc : Int) + off = (tgt : Int)) (hT : KOK p l e R s m args below meth c Q D G A ρ0 nL Pe tgt (j bt)) (hF : KOK p l e R s m args below meth c Q D G A ρ0 nL Pe (pc + 3) (j bf)) : KOK p l e R s m args below meth c Q D G A ρ0 nL Pe pc (tm_icmp bt bf bt call j) := by
  intro E n z L S M rs h he ρ H locs ls st h0 hE hM hS hL hs
  rcases S with _ | ⟨b, _ | ⟨a, S⟩⟩
  · cases h
  · cases h
  have hs0 := hs
  clear hs
  obtain ⟨v, st1, rfl, hv, hs1⟩ := czs_cons hs0
  obtain ⟨u, st, rfl, hu, hs⟩ := czs_cons hs1
  have h' : cmp3 a b E (fun E => j bt E n z L S M) (fun E => j bf E n z L S M) (fun E => j bt E n z L S M) = some rs := h
  have hi : (∃ x, u = .int x) ∧ ∃ y, v = .int y := cmp3_int h' hu hv
  obtain ⟨⟨x, rfl⟩, ⟨y, rfl⟩⟩ := hi
  obtain ⟨k1, k2, k3⟩ := cmp3_ok h' hE hu hv
  exact lv_icmp_ne C.1 C.2.1 hdg ht
   (fun hq => by
    rcases i32_tri x y with t | t | t
    · obtain ⟨E', g1, g2⟩ := go_of (fun _ => rfl) hT he (k1 t)
      exact g2 ρ H locs ls st h0 g1 hM hS hL hs
    · exact absurd hq (by intro hq; simp only [i32_lt, i32_le, ← Int32.toInt_inj, Int32.toInt_zero, ne_eq] at hq t; omega)
    · obtain ⟨E', g1, g2⟩ := go_of (fun _ => rfl) hT he (k3 t)
      exact g2 ρ H locs ls st h0 g1 hM hS hL hs)
   (fun hq => by
    rcases i32_tri x y with t | t | t
    · exact absurd hq (by intro hq; simp only [i32_lt, i32_le, ← Int32.toInt_inj, Int32.toInt_zero, ne_eq] at hq t; omega)
    · obtain ⟨E', g1, g2⟩ := go_of (fun _ => rfl) hF he (k2 t)
      exact g2 ρ H locs ls st h0 g1 hM hS hL hs
    · exact absurd hq (by intro hq; simp only [i32_lt, i32_le, ← Int32.toInt_inj, Int32.toInt_zero, ne_eq] at hq t; omega))
theorem ok_if_ne (C : Cx cc own Ts p l s m args meth c D G A nL) {call : Call} {j : Jmp} {bt bf tgt : Nat} {off : Int} (hdg : decode cc pc = .ok (.ifCond .ne off, 3)) (ht : (pc : Int) + off = (tgt : Int)) (hT : KOK p l e R s m args below meth c Q D G A ρ0 nL Pe tgt (j bt)) (hF : KOK p l e R s m args below meth c Q D G A ρ0 nL Pe (pc + 3) (j bf)) : KOK p l e R s m args below meth c Q D G A ρ0 nL Pe pc (tm_if bt bf bt call j) := by
  intro E n z L S M rs h he ρ H locs ls st h0 hE hM hS hL hs
  rcases S with _ | ⟨a, S⟩
  · cases h
  have hs0 := hs
  clear hs
  obtain ⟨u, st, rfl, hu, hs⟩ := czs_cons hs0
  have hi : ∃ x, u = .int x := by
    rcases a with x | k | x | o | i | w | k | k
    · exact ⟨_, hu⟩
    · cases h
    · cases h
    · cases o with
      | none => cases h
      | some o => exact ⟨_, hu⟩
    all_goals cases h
  obtain ⟨x, rfl⟩ := hi
  have h' : cmp3 a (vI 0) E (fun E => j bt E n z L S M) (fun E => j bf E n z L S M) (fun E => j bt E n z L S M) = some rs := h
  obtain ⟨k1, k2, k3⟩ := cmp3_ok (y := 0) h' hE hu (show cz G ρ (vI 0) (.int 0) from rfl)
  exact lv_if_ne C.1 C.2.1 hdg ht
   (fun hq => by
    rcases i32_tri x 0 with t | t | t
    · obtain ⟨E', g1, g2⟩ := go_of (fun _ => rfl) hT he (k1 t)
      exact g2 ρ H locs ls st h0 g1 hM hS hL hs
    · exact absurd hq (by intro hq; simp only [i32_lt, i32_le, ← Int32.toInt_inj, Int32.toInt_zero, ne_eq] at hq t; omega)
    · obtain ⟨E', g1, g2⟩ := go_of (fun _ => rfl) hT he (k3 t)
      exact g2 ρ H locs ls st h0 g1 hM hS hL hs)
   (fun hq => by
    rcases i32_tri x 0 with t | t | t
    · exact absurd hq (by intro hq; simp only [i32_lt, i32_le, ← Int32.toInt_inj, Int32.toInt_zero, ne_eq] at hq t; omega)
    · obtain ⟨E', g1, g2⟩ := go_of (fun _ => rfl) hF he (k2 t)
      exact g2 ρ H locs ls st h0 g1 hM hS hL hs
    · exact absurd hq (by intro hq; simp only [i32_lt, i32_le, ← Int32.toInt_inj, Int32.toInt_zero, ne_eq] at hq t; omega))
theorem ok_icmp_lt (C : Cx cc own Ts p l s m args meth c D G A nL) {call : Call} {j : Jmp} {bt bf tgt : Nat} {off : Int} (hdg : decode cc pc = .ok (.if_icmp .lt off, 3)) (ht : (pc : Int) + off = (tgt : Int)) (hT : KOK p l e R s m args below meth c Q D G A ρ0 nL Pe tgt (j bt)) (hF : KOK p l e R s m args below meth c Q D G A ρ0 nL Pe (pc + 3) (j bf)) : KOK p l e R s m args below meth c Q D G A ρ0 nL Pe pc (tm_icmp bt bf bf call j) := by
  intro E n z L S M rs h he ρ H locs ls st h0 hE hM hS hL hs
  rcases S with _ | ⟨b, _ | ⟨a, S⟩⟩
  · cases h
  · cases h
  have hs0 := hs
  clear hs
  obtain ⟨v, st1, rfl, hv, hs1⟩ := czs_cons hs0
  obtain ⟨u, st, rfl, hu, hs⟩ := czs_cons hs1
  have h' : cmp3 a b E (fun E => j bt E n z L S M) (fun E => j bf E n z L S M) (fun E => j bf E n z L S M) = some rs := h
  have hi : (∃ x, u = .int x) ∧ ∃ y, v = .int y := cmp3_int h' hu hv
  obtain ⟨⟨x, rfl⟩, ⟨y, rfl⟩⟩ := hi
  obtain ⟨k1, k2, k3⟩ := cmp3_ok h' hE hu hv
  exact lv_icmp_lt C.1 C.2.1 hdg ht
   (fun hq => by
    rcases i32_tri x y with t | t | t
    · obtain ⟨E', g1, g2⟩ := go_of (fun _ => rfl) hT he (k1 t)
      exact g2 ρ H locs ls st h0 g1 hM hS hL hs
    · exact absurd hq (by intro hq; simp only [i32_lt, i32_le, ← Int32.toInt_inj, Int32.toInt_zero, ne_eq] at hq t; omega)
    · exact absurd hq (by intro hq; simp only [i32_lt, i32_le, ← Int32.toInt_inj, Int32.toInt_zero, ne_eq] at hq t; omega))
   (fun hq => by
    rcases i32_tri x y with t | t | t
    · exact absurd hq (by intro hq; simp only [i32_lt, i32_le, ← Int32.toInt_inj, Int32.toInt_zero, ne_eq] at hq t; omega)
    · obtain ⟨E', g1, g2⟩ := go_of (fun _ => rfl) hF he (k2 t)
      exact g2 ρ H locs ls st h0 g1 hM hS hL hs
    · obtain ⟨E', g1, g2⟩ := go_of (fun _ => rfl) hF he (k3 t)
      exact g2 ρ H locs ls st h0 g1 hM hS hL hs)
theorem ok_if_lt (C : Cx cc own Ts p l s m args meth c D G A nL) {call : Call} {j : Jmp} {bt bf tgt : Nat} {off : Int} (hdg : decode cc pc = .ok (.ifCond .lt off, 3)) (ht : (pc : Int) + off = (tgt : Int)) (hT : KOK p l e R s m args below meth c Q D G A ρ0 nL Pe tgt (j bt)) (hF : KOK p l e R s m args below meth c Q D G A ρ0 nL Pe (pc + 3) (j bf)) : KOK p l e R s m args below meth c Q D G A ρ0 nL Pe pc (tm_if bt bf bf call j) := by
  intro E n z L S M rs h he ρ H locs ls st h0 hE hM hS hL hs
  rcases S with _ | ⟨a, S⟩
  · cases h
  have hs0 := hs
  clear hs
  obtain ⟨u, st, rfl, hu, hs⟩ := czs_cons hs0
  have hi : ∃ x, u = .int x := by
    rcases a with x | k | x | o | i | w | k | k
    · exact ⟨_, hu⟩
    · cases h
    · cases h
    · cases o with
      | none => cases h
      | some o => exact ⟨_, hu⟩
    all_goals cases h
  obtain ⟨x, rfl⟩ := hi
  have h' : cmp3 a (vI 0) E (fun E => j bt E n z L S M) (fun E => j bf E n z L S M) (fun E => j bf E n z L S M) = some rs := h
  obtain ⟨k1, k2, k3⟩ := cmp3_ok (y := 0) h' hE hu (show cz G ρ (vI 0) (.int 0) from rfl)
  exact lv_if_lt C.1 C.2.1 hdg ht
   (fun hq => by
    rcases i32_tri x 0 with t | t | t
    · obtain ⟨E', g1, g2⟩ := go_of (fun _ => rfl) hT he (k1 t)
      exact g2 ρ H locs ls st h0 g1 hM hS hL hs
    · exact absurd hq (by intro hq; simp only [i32_lt, i32_le, ← Int32.toInt_inj, Int32.toInt_zero, ne_eq] at hq t; omega)
    · exact absurd hq (by intro hq; simp only [i32_lt, i32_le, ← Int32.toInt_inj, Int32.toInt_zero, ne_eq] at hq t; omega))
   (fun hq => by
    rcases i32_tri x 0 with t | t | t
    · exact absurd hq (by intro hq; simp only [i32_lt, i32_le, ← Int32.toInt_inj, Int32.toInt_zero, ne_eq] at hq t; omega)
    · obtain ⟨E', g1, g2⟩ := go_of (fun _ => rfl) hF he (k2 t)
      exact g2 ρ H locs ls st h0 g1 hM hS hL hs
    · obtain ⟨E', g1, g2⟩ := go_of (fun _ => rfl) hF he (k3 t)
      exact g2 ρ H locs ls st h0 g1 hM hS hL hs)
theorem ok_icmp_ge (C : Cx cc own Ts p l s m args meth c D G A nL) {call : Call} {j : Jmp} {bt bf tgt : Nat} {off : Int} (hdg : decode cc pc = .ok (.if_icmp .ge off, 3)) (ht : (pc : Int) + off = (tgt : Int)) (hT : KOK p l e R s m args below meth c Q D G A ρ0 nL Pe tgt (j bt)) (hF : KOK p l e R s m args below meth c Q D G A ρ0 nL Pe (pc + 3) (j bf)) : KOK p l e R s m args below meth c Q D G A ρ0 nL Pe pc (tm_icmp bf bt bt call j) := by
  intro E n z L S M rs h he ρ H locs ls st h0 hE hM hS hL hs
  rcases S with _ | ⟨b, _ | ⟨a, S⟩⟩
  · cases h
  · cases h
  have hs0 := hs
  clear hs
  obtain ⟨v, st1, rfl, hv, hs1⟩ := czs_cons hs0
  obtain ⟨u, st, rfl, hu, hs⟩ := czs_cons hs1
  have h' : cmp3 a b E (fun E => j bf E n z L S M) (fun E => j bt E n z L S M) (fun E => j bt E n z L S M) = some rs := h
  have hi : (∃ x, u = .int x) ∧ ∃ y, v = .int y := cmp3_int h' hu hv
  obtain ⟨⟨x, rfl⟩, ⟨y, rfl⟩⟩ := hi
  obtain ⟨k1, k2, k3⟩ := cmp3_ok h' hE hu hv
  exact lv_icmp_ge C.1 C.2.1 hdg ht
   (fun hq => by
    rcases i32_tri x y with t | t | t
    · exact absurd hq (by intro hq; simp only [i32_lt, i32_le, ← Int32.toInt_inj, Int32.toInt_zero, ne_eq] at hq t; omega)
    · obtain ⟨E', g1, g2⟩ := go_of (fun _ => rfl) hT he (k2 t)
      exact g2 ρ H locs ls st h0 g1 hM hS hL hs
    · obtain ⟨E', g1, g2⟩ := go_of (fun _ => rfl) hT he (k3 t)
      exact g2 ρ H locs ls st h0 g1 hM hS hL hs)
   (fun hq => by
    rcases i32_tri x y with t | t | t
    · obtain ⟨E', g1, g2⟩ := go_of (fun _ => rfl) hF he (k1 t)
      exact g2 ρ H locs ls st h0 g1 hM hS hL hs
    · exact absurd hq (by intro hq; simp only [i32_lt, i32_le, ← Int32.toInt_inj, Int32.toInt_zero, ne_eq] at hq t; omega)
    · exact absurd hq (by intro hq; simp only [i32_lt, i32_le, ← Int32.toInt_inj, Int32.toInt_zero, ne_eq] at hq t; omega))
theorem ok_if_ge (C : Cx cc own Ts p l s m args meth c D G A nL) {call : Call} {j : Jmp} {bt bf tgt : Nat} {off : Int} (hdg : decode cc pc = .ok (.ifCond .ge off, 3)) (ht : (pc : Int) + off = (tgt : Int)) (hT : KOK p l e R s m args below meth c Q D G A ρ0 nL Pe tgt (j bt)) (hF : KOK p l e R s m args below meth c Q D G A ρ0 nL Pe (pc + 3) (j bf)) : KOK p l e R s m args below meth c Q D G A ρ0 nL Pe pc (tm_if bf bt bt call j) := by
  intro E n z L S M rs h he ρ H locs ls st h0 hE hM hS hL hs
  rcases S with _ | ⟨a, S⟩
  · cases h
  have hs0 := hs
  clear hs
  obtain ⟨u, st, rfl, hu, hs⟩ := czs_cons hs0
  have hi : ∃ x, u = .int x := by
    rcases a with x | k | x | o | i | w | k | k
    · exact ⟨_, hu⟩
    · cases h
    · cases h
    · cases o with
      | none => cases h
      | some o => exact ⟨_, hu⟩
    all_goals cases h
  obtain ⟨x, rfl⟩ := hi
  have h' : cmp3 a (vI 0) E (fun E => j bf E n z L S M) (fun E => j bt E n z L S M) (fun E => j bt E n z L S M) = some rs := h
  obtain ⟨k1, k2, k3⟩ := cmp3_ok (y := 0) h' hE hu (show cz G ρ (vI 0) (.int 0) from rfl)
  exact lv_if_ge C.1 C.2.1 hdg ht
   (fun hq => by
    rcases i32_tri x 0 with t | t | t
    · exact absurd hq (by intro hq; simp only [i32_lt, i32_le, ← Int32.toInt_inj, Int32.toInt_zero, ne_eq] at hq t; omega)
    · obtain ⟨E', g1, g2⟩ := go_of (fun _ => rfl) hT he (k2 t)
      exact g2 ρ H locs ls st h0 g1 hM hS hL hs
    · obtain ⟨E', g1, g2⟩ := go_of (fun _ => rfl) hT he (k3 t)
      exact g2 ρ H locs ls st h0 g1 hM hS hL hs)
   (fun hq => by
    rcases i32_tri x 0 with t | t | t
    · obtain ⟨E', g1, g2⟩ := go_of (fun _ => rfl) hF he (k1 t)
      exact g2 ρ H locs ls st h0 g1 hM hS hL hs
    · exact absurd hq (by intro hq; simp only [i32_lt, i32_le, ← Int32.toInt_inj, Int32.toInt_zero, ne_eq] at hq t; omega)
    · exact absurd hq (by intro hq; simp only [i32_lt, i32_le, ← Int32.toInt_inj, Int32.toInt_zero, ne_eq] at hq t; omega))
theorem ok_icmp_gt (C : Cx cc own Ts p l s m args meth c D G A nL) {call : Call} {j : Jmp} {bt bf tgt : Nat} {off : Int} (hdg : decode cc pc = .ok (.if_icmp .gt off, 3)) (ht : (pc : Int) + off = (tgt : Int)) (hT : KOK p l e R s m args below meth c Q D G A ρ0 nL Pe tgt (j bt)) (hF : KOK p l e R s m args below meth c Q D G A ρ0 nL Pe (pc + 3) (j bf)) : KOK p l e R s m args below meth c Q D G A ρ0 nL Pe pc (tm_icmp bf bf bt call j) := by
  intro E n z L S M rs h he ρ H locs ls st h0 hE hM hS hL hs
  rcases S with _ | ⟨b, _ | ⟨a, S⟩⟩
  · cases h
  · cases h
  have hs0 := hs
  clear hs
  obtain ⟨v, st1, rfl, hv, hs1⟩ := czs_cons hs0
  obtain ⟨u, st, rfl, hu, hs⟩ := czs_cons hs1
  have h' : cmp3 a b E (fun E => j bf E n z L S M) (fun E => j bf E n z L S M) (fun E => j bt E n z L S M) = some rs := h
  have hi : (∃ x, u = .int x) ∧ ∃ y, v = .int y := cmp3_int h' hu hv
  obtain ⟨⟨x, rfl⟩, ⟨y, rfl⟩⟩ := hi
  obtain ⟨k1, k2, k3⟩ := cmp3_ok h' hE hu hv
  exact lv_icmp_gt C.1 C.2.1 hdg ht
   (fun hq => by
    rcases i32_tri x y with t | t | t
    · exact absurd hq (by intro hq; simp only [i32_lt, i32_le, ← Int32.toInt_inj, Int32.toInt_zero, ne_eq] at hq t; omega)
    · exact absurd hq (by intro hq; simp only [i32_lt, i32_le, ← Int32.toInt_inj, Int32.toInt_zero, ne_eq] at hq t; omega)
    · obtain ⟨E', g1, g2⟩ := go_of (fun _ => rfl) hT he (k3 t)
      exact g2 ρ H locs ls st h0 g1 hM hS hL hs)
   (fun hq => by
    rcases i32_tri x y with t | t | t
    · obtain ⟨E', g1, g2⟩ := go_of (fun _ => rfl) hF he (k1 t)
      exact g2 ρ H locs ls st h0 g1 hM hS hL hs
    · obtain ⟨E', g1, g2⟩ := go_of (fun _ => rfl) hF he (k2 t)
      exact g2 ρ H locs ls st h0 g1 hM hS hL hs
    · exact absurd hq (by intro hq; simp only [i32_lt, i32_le, ← Int32.toInt_inj, Int32.toInt_zero, ne_eq] at hq t; omega))
theorem ok_if_gt (C : Cx cc own Ts p l s m args meth c D G A nL) {call : Call} {j : Jmp} {bt bf tgt : Nat} {off : Int} (hdg : decode cc pc = .ok (.ifCond .gt off, 3)) (ht : (pc : Int) + off = (tgt : Int)) (hT : KOK p l e R s m args below meth c Q D G A ρ0 nL Pe tgt (j bt)) (hF : KOK p l e R s m args below meth c Q D G A ρ0 nL Pe (pc + 3) (j bf)) : KOK p l e R s m args below meth c Q D G A ρ0 nL Pe pc (tm_if bf bf bt call j) := by
  intro E n z L S M rs h he ρ H locs ls st h0 hE hM hS hL hs
  rcases S with _ | ⟨a, S⟩
  · cases h
  have hs0 := hs
  clear hs
  obtain ⟨u, st, rfl, hu, hs⟩ := czs_cons hs0
  have hi : ∃ x, u = .int x := by
    rcases a with x | k | x | o | i | w | k | k
    · exact ⟨_, hu⟩
    · cases h
    · cases h
    · cases o with
      | none => cases h
      | some o => exact ⟨_, hu⟩
    all_goals cases h
  obtain ⟨x, rfl⟩ := hi
  have h' : cmp3 a (vI 0) E (fun E => j bf E n z L S M) (fun E => j bf E n z L S M) (fun E => j bt E n z L S M) = some rs := h
  obtain ⟨k1, k2, k3⟩ := cmp3_ok (y := 0) h' hE hu (show cz G ρ (vI 0) (.int 0) from rfl)
  exact lv_if_gt C.1 C.2.1 hdg ht
   (fun hq => by
    rcases i32_tri x 0 with t | t | t
    · exact absurd hq (by intro hq; simp only [i32_lt, i32_le, ← Int32.toInt_inj, Int32.toInt_zero, ne_eq] at hq t; omega)
    · exact absurd hq (by intro hq; simp only [i32_lt, i32_le, ← Int32.toInt_inj, Int32.toInt_zero, ne_eq] at hq t; omega)
    · obtain ⟨E', g1, g2⟩ := go_of (fun _ => rfl) hT he (k3 t)
      exact g2 ρ H locs ls st h0 g1 hM hS hL hs)
   (fun hq => by
    rcases i32_tri x 0 with t | t | t
    · obtain ⟨E', g1, g2⟩ := go_of (fun _ => rfl) hF he (k1 t)
      exact g2 ρ H locs ls st h0 g1 hM hS hL hs
    · obtain ⟨E', g1, g2⟩ := go_of (fun _ => rfl) hF he (k2 t)
      exact g2 ρ H locs ls st h0 g1 hM hS hL hs
    · exact absurd hq (by intro hq; simp only [i32_lt, i32_le, ← Int32.toInt_inj, Int32.toInt_zero, ne_eq] at hq t; omega))
theorem ok_icmp_le (C : Cx cc own Ts p l s m args meth c D G A nL) {call : Call} {j : Jmp} {bt bf tgt : Nat} {off : Int} (hdg : decode cc pc = .ok (.if_icmp .le off, 3)) (ht : (pc : Int) + off = (tgt : Int)) (hT : KOK p l e R s m args below meth c Q D G A ρ0 nL Pe tgt (j bt)) (hF : KOK p l e R s m args below meth c Q D G A ρ0 nL Pe (pc + 3) (j bf)) : KOK p l e R s m args below meth c Q D G A ρ0 nL Pe pc (tm_icmp bt bt bf call j) := by
  intro E n z L S M rs h he ρ H locs ls st h0 hE hM hS hL hs
  rcases S with _ | ⟨b, _ | ⟨a, S⟩⟩
  · cases h
  · cases h
  have hs0 := hs
  clear hs
  obtain ⟨v, st1, rfl, hv, hs1⟩ := czs_cons hs0
  obtain ⟨u, st, rfl, hu, hs⟩ := czs_cons hs1
  have h' : cmp3 a b E (fun E => j bt E n z L S M) (fun E => j bt E n z L S M) (fun E => j bf E n z L S M) = some rs := h
  have hi : (∃ x, u = .int x) ∧ ∃ y, v = .int y := cmp3_int h' hu hv
  obtain ⟨⟨x, rfl⟩, ⟨y, rfl⟩⟩ := hi
  obtain ⟨k1, k2, k3⟩ := cmp3_ok h' hE hu hv
  exact lv_icmp_le C.1 C.2.1 hdg ht
   (fun hq => by
    rcases i32_tri x y with t | t | t
    · obtain ⟨E', g1, g2⟩ := go_of (fun _ => rfl) hT he (k1 t)
      exact g2 ρ H locs ls st h0 g1 hM hS hL hs
    · obtain ⟨E', g1, g2⟩ := go_of (fun _ => rfl) hT he (k2 t)
      exact g2 ρ H locs ls st h0 g1 hM hS hL hs
    · exact absurd hq (by intro hq; simp only [i32_lt, i32_le, ← Int32.toInt_inj, Int32.toInt_zero, ne_eq] at hq t; omega))
   (fun hq => by
    rcases i32_tri x y with t | t | t
    · exact absurd hq (by intro hq; simp only [i32_lt, i32_le, ← Int32.toInt_inj, Int32.toInt_zero, ne_eq] at hq t; omega)
    · exact absurd hq (by intro hq; simp only [i32_lt, i32_le, ← Int32.toInt_inj, Int32.toInt_zero, ne_eq] at hq t; omega)
    · obtain ⟨E', g1, g2⟩ := go_of (fun _ => rfl) hF he (k3 t)
      exact g2 ρ H locs ls st h0 g1 hM hS hL hs)
theorem ok_if_le (C : Cx cc own Ts p l s m args meth c D G A nL) {call : Call} {j : Jmp} {bt bf tgt : Nat} {off : Int} (hdg : decode cc pc = .ok (.ifCond .le off, 3)) (ht : (pc : Int) + off = (tgt : Int)) (hT : KOK p l e R s m args below meth c Q D G A ρ0 nL Pe tgt (j bt)) (hF : KOK p l e R s m args below meth c Q D G A ρ0 nL Pe (pc + 3) (j bf)) : KOK p l e R s m args below meth c Q D G A ρ0 nL Pe pc (tm_if bt bt bf call j) := by
  intro E n z L S M rs h he ρ H locs ls st h0 hE hM hS hL hs
  rcases S with _ | ⟨a, S⟩
  · cases h
  have hs0 := hs
  clear hs
  obtain ⟨u, st, rfl, hu, hs⟩ := czs_cons hs0
  have hi : ∃ x, u = .int x := by
    rcases a with x | k | x | o | i | w | k | k
    · exact ⟨_, hu⟩
    · cases h
    · cases h
    · cases o with
      | none => cases h
      | some o => exact ⟨_, hu⟩
    all_goals cases h
  obtain ⟨x, rfl⟩ := hi
  have h' : cmp3 a (vI 0) E (fun E => j bt E n z L S M) (fun E => j bt E n z L S M) (fun E => j bf E n z L S M) = some rs := h
  obtain ⟨k1, k2, k3⟩ := cmp3_ok (y := 0) h' hE hu (show cz G ρ (vI 0) (.int 0) from rfl)
  exact lv_if_le C.1 C.2.1 hdg ht
   (fun hq => by
    rcases i32_tri x 0 with t | t | t
    · obtain ⟨E', g1, g2⟩ := go_of (fun _ => rfl) hT he (k1 t)
      exact g2 ρ H locs ls st h0 g1 hM hS hL hs
    · obtain ⟨E', g1, g2⟩ := go_of (fun _ => rfl) hT he (k2 t)
      exact g2 ρ H locs ls st h0 g1 hM hS hL hs
    · exact absurd hq (by intro hq; simp only [i32_lt, i32_le, ← Int32.toInt_inj, Int32.toInt_zero, ne_eq] at hq t; omega))
   (fun hq => by
    rcases i32_tri x 0 with t | t | t
    · exact absurd hq (by intro hq; simp only [i32_lt, i32_le, ← Int32.toInt_inj, Int32.toInt_zero, ne_eq] at hq t; omega)
    · exact absurd hq (by intro hq; simp only [i32_lt, i32_le, ← Int32.toInt_inj, Int32.toInt_zero, ne_eq] at hq t; omega)
    · obtain ⟨E', g1, g2⟩ := go_of (fun _ => rfl) hF he (k3 t)
      exact g2 ρ H locs ls st h0 g1 hM hS hL hs)
theorem ok_switch (C : Cx cc own Ts p l s m args meth c D G A nL) {call : Call} {j : Jmp} {d : Nat} {ts : List Nat} {dflt hi : Int} {offs : Array Int} {len : Nat} {tg : Nat → Nat} (hdg : decode cc pc = .ok (.tableswitch dflt 0 hi offs, len)) (hh : hi = (ts.length : Int) - 1) (hsz : offs.size = ts.length) (hl : ts.length < 1000) (hd : (pc : Int) + dflt = (tg d : Int)) (ho : ∀ i, i < ts.length → ∃ off, offs[i]? = some off ∧ (pc : Int) + off = (tg (nthN ts d i) : Int)) (hJ : ∀ b, KOK p l e R s m args below meth c Q D G A ρ0 nL Pe (tg b) (j b)) : KOK p l e R s m args below meth c Q D G A ρ0 nL Pe pc (tm_switch d ts call j) := by
  intro E n z L S M rs h he ρ H locs ls st h0 hE hM hS hL hs
  rcases S with _ | ⟨a, S⟩
  · cases h
  have hs0 := hs
  clear hs
  obtain ⟨u, st, rfl, hu, hs⟩ := czs_cons hs0
  rcases a with x | k | x | o | i | w | k | k
  · obtain ⟨h1, h2⟩ := gd_some (show gd (Nat.ble x 4294967295) (j (nthN ts d x) E n z L S M) = some rs from h)
    have hx := Nat.le_of_ble_eq_true h1
    have hu' : u = .int (nI x) := hu
    subst hu'
    have hi := nI_int x
    unfold bi at hi
    have G := hJ (nthN ts d x) E n z L S M rs h2 he ρ H locs ls st h0 hE hM hS hL hs
    by_cases hxl : x < ts.length
    · obtain ⟨off, g1, g2⟩ := ho x hxl
      have e0 : (nI x).toInt = (x : Int) := by rw [hi]; omega
      exact lv_tableIn C.1 C.2.1 hdg (by rw [e0]; omega) (by rw [e0]; omega) (by rw [e0]; simpa using g1) g2 G
    · have e1 : nthN ts d x = d := nthN_out (by omega)
      rw [e1] at G
      exact lv_tableOut C.1 C.2.1 hdg (by rw [hi]; omega) hd G
  all_goals cases h
end OPS
end
section
/-! fields, rows, new cells -/
section OPM
variable {p : Program} {l : Launch} {e : Env} {R : Room} {s : State} {m : MethodId} {args : Array Value} {below : List Frame} {meth : Method} {c : Code} {Q : State → Prop} {D : va_G} {G : Gam} {A : Nat → Prop} {ρ0 : List Nat} {nL : Nat} {Pe : Res → Prop} {cc : ByteArray} {own : String} {Ts : List Cond} {pc : Nat} {K : KK}
theorem mem_at {ρ : List Nat} {n : Nat} {M : Mem} {H : Heap} (hM : memR D s G A ρ n M H) {k q : Nat} (hk : ρ[k]? = some q) :
    ∃ (ws : va_W) (e : va_E), ws[k]? = some (q, e) ∧ celR s G ρ (tget 9 M k) e ∧ va_P D vwCl ws H ∧ va_D A ws ∧
      (∀ (H1 : Heap) (c' : Cel) (e' : va_E), va_P D vwCl (ws.set k (q, e')) H1 → va_D A (ws.set k (q, e')) → celR s G ρ c' e' → memR D s G A ρ n (tset 9 M k c') H1) ∧
      (∀ (k2 q2 : Nat), ρ[k2]? = some q2 → ∃ e2, ws[k2]? = some (q2, e2) ∧ celR s G ρ (tget 9 M k2) e2) := by
  obtain ⟨ws, w1, w2, w3, w4, w5, w6⟩ := hM
  have at' : ∀ (k2 q2 : Nat), ρ[k2]? = some q2 → ∃ e2, ws[k2]? = some (q2, e2) ∧ celR s G ρ (tget 9 M k2) e2 := by
    intro k2 q2 h2
    have hl := (List.getElem?_eq_some_iff.mp h2).1
    have hl2 : k2 < ws.length := by rw [w1, ← w2]; exact hl
    obtain ⟨g1, g2⟩ := w4 k2 ws[k2] (List.getElem?_eq_getElem hl2)
    rw [h2] at g1
    refine ⟨ws[k2].2, ?_, g2⟩
    rw [List.getElem?_eq_getElem hl2, Option.some.inj g1]
  obtain ⟨e0, h1, h2⟩ := at' k q hk
  have hl := (List.getElem?_eq_some_iff.mp h1).1
  refine ⟨ws, e0, h1, h2, w5, w6, fun H1 c' e' g1 g2 g3 => ⟨ws.set k (q, e'), by rw [List.length_set]; exact w1, w2, w3, fun j x hj => ?_, g1, g2⟩, at'⟩
  have hj2 : j < ws.length := by
    have := (List.getElem?_eq_some_iff.mp hj).1
    rwa [List.length_set] at this
  rw [tget_tset 9 M k j c' (by omega) (by omega)]
  rw [List.getElem?_set] at hj
  by_cases hkj : k = j
  · subst hkj
    rw [if_pos rfl, if_pos hl] at hj
    cases hj
    rw [if_pos rfl]
    exact ⟨hk, g3⟩
  · rw [if_neg hkj] at hj
    rw [if_neg (Ne.symm hkj)]
    exact w4 j x hj
theorem K1 (hK : va_K D vwCl [] s) {cA : ClassId} {ty : FieldType} (h : tyK s cA ty) : va_K D vwCl [(cA, ty)] s := by
  refine ⟨hK.1, fun k q hk => ?_⟩
  cases k with
  | zero => cases hk; exact h
  | succ k => simp at hk
theorem K2 (hK : va_K D vwCl [] s) {cA cB : ClassId} {ty ty' : FieldType} (h : tyK s cA ty) (h' : tyK s cB ty') : va_K D vwCl [(cA, ty), (cB, ty')] s := by
  refine ⟨hK.1, fun k q hk => ?_⟩
  rcases k with _ | _ | k
  · cases hk; exact h
  · cases hk; exact h'
  · simp at hk
theorem clamp_nI {j N : Nat} (h : j < N) (hN : N ≤ 100000) : (nI j).toNatClampNeg = j := nI_clamp (by omega)
theorem mem_new {ρ : List Nat} {n : Nat} {M : Mem} {H1 : Heap} {q : Nat} {e' : va_E} {c' : Cel} {ws : va_W} (w1 : ws.length = n) (w2 : ρ.length = n) (hn : n + 1 ≤ 512) (w4 : ∀ (k : Nat) (q : Nat × va_E), ws[k]? = some q → ρ[k]? = some q.1 ∧ celR s G ρ (tget 9 M k) q.2)
    (hP : va_P D vwCl (ws ++ [(q, e')]) H1) (hD : va_D A (ws ++ [(q, e')])) (hc : celR s G (ρ ++ [q]) c' e') : memR D s G A (ρ ++ [q]) (n + 1) (tset 9 M n c') H1 := by
  refine ⟨ws ++ [(q, e')], by simp [w1], by simp [w2], hn, fun k x hk => ?_, hP, hD⟩
  have hk2 : k < n + 1 := by
    have := (List.getElem?_eq_some_iff.mp hk).1
    simpa [w1] using this
  rw [tget_tset 9 M n k c' (by omega) (by omega)]
  by_cases hkn : k = n
  · subst hkn
    rw [if_pos rfl]
    rw [List.getElem?_append_right (by omega), w1] at hk
    simp at hk
    subst hk
    exact ⟨by rw [List.getElem?_append_right (by omega), w2]; simp, hc⟩
  · rw [if_neg hkn]
    rw [List.getElem?_append_left (by omega)] at hk
    obtain ⟨g1, g2⟩ := w4 k x hk
    exact ⟨by rw [List.getElem?_append_left (by omega)]; exact g1, celR_mono (List.prefix_append _ _) g2⟩
theorem ok_getf (C : Cx cc own Ts p l s m args meth c D G A nL) {call : Call} {index ci i N : Nat} {Cn : String} {T : u_T} (hc : vwCl[ci]? = some (Cn, T, N)) (hin : ∀ w ∈ u_ws Cn T N, w ∈ Ts) (hi : i < N) (hlink : Cond.fieldLink own index (T i).1 (T i).2.1 (T i).2.2.1 ∈ Ts) (hdg : decode cc pc = .ok (.getfield index, 3)) (hK : KOK p l e R s m args below meth c Q D G A ρ0 nL Pe (pc + 3) K) : KOK p l e R s m args below meth c Q D G A ρ0 nL Pe pc (op_getf ci i call K) := by
  intro E n z L S M rs h he ρ H locs ls st h0 hE hM hS hL hs
  rcases S with _ | ⟨a, S⟩
  · cases h
  obtain ⟨u, st, rfl, hu, hs'⟩ := czs_cons hs
  rcases a with x | a | x | o | j | w | k | k
  · cases h
  · obtain ⟨q, hq, rfl⟩ := hu
    obtain ⟨ws, e0, g1, g2, g3, g4, -, -⟩ := mem_at hM hq
    unfold op_getf at h
    cases hcel : tget 9 M a with
    | inl o =>
      rw [hcel] at g2
      simp only [hcel] at h
      obtain ⟨h1, h2⟩ := gd_some h
      obtain ⟨h3, h4⟩ := gd_some h2
      obtain ⟨vs, rfl, hvs⟩ := g2
      rw [Nat.eq_of_beq_eq_true h1] at g1
      obtain ⟨v, hv1, hv2⟩ := czs_get hvs (k := i) (Nat.le_of_ble_eq_true h3)
      exact va_get C.1 C.2.1 C.2.2.2.2.1 hin C.2.2.2.1 C.2.2.2.2.2.1 g3 a g1 hc i hi (C.2.2.2.2.1 _ hlink) (fun _ h => h) hv1 hdg (hK E n z L _ M rs h4 he ρ H locs ls (v :: st) h0 hE hM hS hL ⟨hv2, hs'⟩)
    | inr o => simp only [hcel] at h; cases h
  all_goals cases h
theorem ok_putf (C : Cx cc own Ts p l s m args meth c D G A nL) {call : Call} {f : AV → Bool} {index ci i N : Nat} {Cn : String} {T : u_T} {ty0 : Nat → FieldType} {ty : FieldType} (hc : vwCl[ci]? = some (Cn, T, N)) (hin : ∀ w ∈ u_ws Cn T N, w ∈ Ts) (hty : ∀ k, k < N → parseFieldDescriptor (T k).2.2.1 = some (ty0 k)) (hnm : ∀ a, a < N → ∀ b, b < N → a ≠ b → (T a).2.1 ≠ (T b).2.1) (hi : i < N) (hlink : Cond.fieldLink own index (T i).1 (T i).2.1 (T i).2.2.1 ∈ Ts)
    (hfin : (T i).2.2.2 = false ∨ ((T i).2.2.2 = true ∧ meth.name = "<init>" ∧ (T i).1 = own)) (hd : parseFieldDescriptor (T i).2.2.1 = some ty) (hval : ∀ {ρ a v}, cz G ρ a v → f a = true → narrow ty v = v ∧ fits ty v = true) (hdg : decode cc pc = .ok (.putfield index, 3)) (hK : KOK p l e R s m args below meth c Q D G A ρ0 nL Pe (pc + 3) K) : KOK p l e R s m args below meth c Q D G A ρ0 nL Pe pc (op_putf f ci i call K) := by
  intro E n z L S M rs h he ρ H locs ls st h0 hE hM hS hL hs
  rcases S with _ | ⟨b, _ | ⟨a, S⟩⟩
  · cases h
  · cases h
  obtain ⟨v, st1, rfl, hv, hs1⟩ := czs_cons hs
  obtain ⟨u, st, rfl, hu, hs'⟩ := czs_cons hs1
  rcases a with x | a | x | o | j | w | k | k
  · cases h
  · obtain ⟨q, hq, rfl⟩ := hu
    obtain ⟨ws, e0, g1, g2, g3, g4, g5, -⟩ := mem_at hM hq
    unfold op_putf at h
    obtain ⟨h0', h⟩ := gd_some h
    cases hcel : tget 9 M a with
    | inl o =>
      rw [hcel] at g2
      simp only [hcel] at h
      obtain ⟨h1, h2⟩ := gd_some h
      obtain ⟨h3, h4⟩ := gd_some h2
      obtain ⟨vs, rfl, hvs⟩ := g2
      have e1 := Nat.eq_of_beq_eq_true h1
      rw [e1] at g1 h4
      obtain ⟨n1, n2⟩ := hval hv h0'
      have hlen : i < vs.length := by rw [← czs_len hvs]; exact Nat.le_of_ble_eq_true h3
      have kk : ∀ (H1 : Heap) (locs1 : List Loc), va_P D vwCl (ws.set a (q, .inr (ci, vs.set i v))) H1 → va_D A (ws.set a (q, .inr (ci, vs.set i v))) → va_S A s.heap H1 locs1 → W p l e R s m args below meth c H1 locs1 z z Q (F0 m (pc + 3) ls st) :=
        fun H1 locs1 k1 k2 k3 => hK E n z L S _ rs h4 he ρ H1 locs1 ls st h0 hE (g5 H1 _ _ k1 k2 ⟨_, rfl, czs_set hv hvs i⟩) k3 hL hs'
      rcases hfin with hfin | ⟨hfin, hme, hdc⟩
      · exact va_put C.1 C.2.1 C.2.2.2.2.1 hin ty0 hty hnm C.2.2.2.1 C.2.2.2.2.2.1 g3 g4 hS a g1 hc i hi (C.2.2.2.2.1 _ hlink) (fun _ h => h) hfin hd n1 n2 hlen hdg kk
      · exact va_putF C.1 C.2.1 C.2.2.2.2.1 hin ty0 hty hnm C.2.2.2.1 C.2.2.2.2.2.1 g3 g4 hS a g1 hc i hi (C.2.2.2.2.1 _ hlink) (fun _ h => h) hfin hme hdc hd n1 n2 hlen hdg kk
    | inr o => simp only [hcel] at h; cases h
  all_goals cases h
theorem val_I {ρ : List Nat} {a : AV} {v : Value} (hv : cz G ρ a v) (h : isI a = true) : narrow .int v = v ∧ fits .int v = true := by
  obtain ⟨x, rfl⟩ := cz_isI hv h
  exact ⟨rfl, rfl⟩
theorem val_J {ρ : List Nat} {a : AV} {v : Value} (hv : cz G ρ a v) (h : isJ a = true) : narrow .long v = v ∧ fits .long v = true := by
  obtain ⟨x, rfl⟩ := cz_isJ hv h
  exact ⟨rfl, rfl⟩
theorem val_Z {ρ : List Nat} {a : AV} {v : Value} (hv : cz G ρ a v) (h : isZ a = true) : narrow .boolean v = v ∧ fits .boolean v = true := by
  obtain ⟨k, hk, -, rfl⟩ := cz_isZ hv h
  rcases (show k = 0 ∨ k = 1 by omega) with rfl | rfl <;> exact ⟨by decide +kernel, by decide +kernel⟩
theorem val_O {cn : String} {ρ : List Nat} {a : AV} {v : Value} (hv : cz G ρ a v) (h : isA a = true) : narrow (.object cn) v = v ∧ fits (.object cn) v = true := by
  rcases cz_isA hv h with rfl | ⟨q, rfl⟩ <;> exact ⟨rfl, rfl⟩
theorem val_A {ty : FieldType} {ρ : List Nat} {a : AV} {v : Value} (hv : cz G ρ a v) (h : isA a = true) : narrow (.array ty) v = v ∧ fits (.array ty) v = true := by
  rcases cz_isA hv h with rfl | ⟨q, rfl⟩ <;> exact ⟨rfl, rfl⟩
theorem ok_iald (C : Cx cc own Ts p l s m args meth c D G A nL) {call : Call} (hdg : decode cc pc = .ok (.iaload, 1)) (hK : KOK p l e R s m args below meth c Q D G A ρ0 nL Pe (pc + 1) K) : KOK p l e R s m args below meth c Q D G A ρ0 nL Pe pc (op_iald 0 call K) := by
  intro E n z L S M rs h he ρ H locs ls st h0 hE hM hS hL hs
  rcases S with _ | ⟨b, _ | ⟨a, S⟩⟩
  · cases h
  · rcases b with x | b | x | o | j | w | k | k <;> cases h
  obtain ⟨v, st1, rfl, hv, hs1⟩ := czs_cons hs
  obtain ⟨u, st, rfl, hu, hs'⟩ := czs_cons hs1
  rcases b with j | b | x | o | i | w | k | k
  · rcases a with x | a | x | o | i | w | k | k
    · cases h
    · obtain ⟨q, hq, rfl⟩ := hu
      obtain ⟨ws, e0, g1, g2, g3, g4, -, -⟩ := mem_at hM hq
      unfold op_iald at h
      have hv' : v = .int (nI j) := hv
      subst hv'
      rcases hcel : tget 9 M a with o | o | o | o
      · simp only [hcel] at h; cases h
      · rw [hcel] at g2
        simp only [hcel] at h
        obtain ⟨h1, h2⟩ := gd_some h
        obtain ⟨h3, h4⟩ := gd_some h2
        obtain ⟨cA, f, rfl, hty, hN, -, hf⟩ := g2
        rw [Nat.eq_of_beq_eq_true h1] at hty
        have hj : j < o.2.1 := Nat.le_of_ble_eq_true h3
        have hcl := clamp_nI hj hN
        refine va_iald C.1 C.2.1 (K1 C.2.2.2.2.2.1 hty) g3 a 0 g1 rfl (vp_in_nI hj (by omega)) hdg ?_
        rw [hcl]
        exact hK E n z L _ M rs h4 he ρ H locs ls _ h0 hE hM hS hL ⟨hf j hj, hs'⟩
      · simp only [hcel] at h; cases h
      · simp only [hcel] at h; cases h
    all_goals cases h
  all_goals (rcases a with x | a | x | o | i | w | k | k <;> cases h)
theorem ok_bald (C : Cx cc own Ts p l s m args meth c D G A nL) {call : Call} (hdg : decode cc pc = .ok (.baload, 1)) (hK : KOK p l e R s m args below meth c Q D G A ρ0 nL Pe (pc + 1) K) : KOK p l e R s m args below meth c Q D G A ρ0 nL Pe pc (op_iald 1 call K) := by
  intro E n z L S M rs h he ρ H locs ls st h0 hE hM hS hL hs
  rcases S with _ | ⟨b, _ | ⟨a, S⟩⟩
  · cases h
  · rcases b with x | b | x | o | j | w | k | k <;> cases h
  obtain ⟨v, st1, rfl, hv, hs1⟩ := czs_cons hs
  obtain ⟨u, st, rfl, hu, hs'⟩ := czs_cons hs1
  rcases b with j | b | x | o | i | w | k | k
  · rcases a with x | a | x | o | i | w | k | k
    · cases h
    · obtain ⟨q, hq, rfl⟩ := hu
      obtain ⟨ws, e0, g1, g2, g3, g4, -, -⟩ := mem_at hM hq
      unfold op_iald at h
      have hv' : v = .int (nI j) := hv
      subst hv'
      rcases hcel : tget 9 M a with o | o | o | o
      · simp only [hcel] at h; cases h
      · rw [hcel] at g2
        simp only [hcel] at h
        obtain ⟨h1, h2⟩ := gd_some h
        obtain ⟨h3, h4⟩ := gd_some h2
        obtain ⟨cA, f, rfl, hty, hN, -, hf⟩ := g2
        rw [Nat.eq_of_beq_eq_true h1] at hty
        have hj : j < o.2.1 := Nat.le_of_ble_eq_true h3
        have hcl := clamp_nI hj hN
        refine va_bald C.1 C.2.1 (K1 C.2.2.2.2.2.1 hty) g3 a 0 g1 rfl (vp_in_nI hj (by omega)) hdg ?_
        rw [hcl]
        exact hK E n z L _ M rs h4 he ρ H locs ls _ h0 hE hM hS hL ⟨hf j hj, hs'⟩
      · simp only [hcel] at h; cases h
      · simp only [hcel] at h; cases h
    all_goals cases h
  all_goals (rcases a with x | a | x | o | i | w | k | k <;> cases h)
theorem ok_zald (C : Cx cc own Ts p l s m args meth c D G A nL) {call : Call} (hdg : decode cc pc = .ok (.baload, 1)) (hK : KOK p l e R s m args below meth c Q D G A ρ0 nL Pe (pc + 1) K) : KOK p l e R s m args below meth c Q D G A ρ0 nL Pe pc (op_iald 2 call K) := by
  intro E n z L S M rs h he ρ H locs ls st h0 hE hM hS hL hs
  rcases S with _ | ⟨b, _ | ⟨a, S⟩⟩
  · cases h
  · rcases b with x | b | x | o | j | w | k | k <;> cases h
  obtain ⟨v, st1, rfl, hv, hs1⟩ := czs_cons hs
  obtain ⟨u, st, rfl, hu, hs'⟩ := czs_cons hs1
  rcases b with j | b | x | o | i | w | k | k
  · rcases a with x | a | x | o | i | w | k | k
    · cases h
    · obtain ⟨q, hq, rfl⟩ := hu
      obtain ⟨ws, e0, g1, g2, g3, g4, -, -⟩ := mem_at hM hq
      unfold op_iald at h
      have hv' : v = .int (nI j) := hv
      subst hv'
      rcases hcel : tget 9 M a with o | o | o | o
      · simp only [hcel] at h; cases h
      · rw [hcel] at g2
        simp only [hcel] at h
        obtain ⟨h1, h2⟩ := gd_some h
        obtain ⟨h3, h4⟩ := gd_some h2
        obtain ⟨cA, f, rfl, hty, hN, -, hf⟩ := g2
        rw [Nat.eq_of_beq_eq_true h1] at hty
        have hj : j < o.2.1 := Nat.le_of_ble_eq_true h3
        have hcl := clamp_nI hj hN
        refine va_zald C.1 C.2.1 (K1 C.2.2.2.2.2.1 hty) g3 a 0 g1 rfl (vp_in_nI hj (by omega)) hdg ?_
        rw [hcl]
        exact hK E n z L _ M rs h4 he ρ H locs ls _ h0 hE hM hS hL ⟨hf j hj, hs'⟩
      · simp only [hcel] at h; cases h
      · simp only [hcel] at h; cases h
    all_goals cases h
  all_goals (rcases a with x | a | x | o | i | w | k | k <;> cases h)
theorem aset_ok {ρ : List Nat} {q : Nat × Nat × Nat × List (Nat × AV)} {j : Nat} {v : AV} {x : Int32} {f : Cel → OR} {rs : List Res} (h : aset q j v f = some rs) (hv : cz G ρ v (.int x)) : ∃ (p' : Nat) (ov : List (Nat × AV)), f (cI q.1 q.2.1 p' ov) = some rs ∧ cz G ρ (aget p' ov j) (.int x) ∧ ∀ k, k ≠ j → aget p' ov k = aget q.2.2.1 q.2.2.2 k := by
  have oth : f (cI q.1 q.2.1 q.2.2.1 ((j, v) :: q.2.2.2)) = some rs → ∃ (p' : Nat) (ov : List (Nat × AV)), f (cI q.1 q.2.1 p' ov) = some rs ∧ cz G ρ (aget p' ov j) (.int x) ∧ ∀ k, k ≠ j → aget p' ov k = aget q.2.2.1 q.2.2.2 k := fun h =>
    ⟨_, _, h, by rw [aget_cons, if_pos rfl]; exact hv, fun k hk => by rw [aget_cons, if_neg (Ne.symm hk)]⟩
  rcases v with n | a | n | o | i | w | k | k
  · have h' : fN (pset q.2.2.1 j n) (fun p => f (cI q.1 q.2.1 p (orm q.2.2.2 j))) = some rs := h
    rw [fN_eq] at h'
    have hp : ∀ k, k ≠ j → pget (pset q.2.2.1 j n) k = pget q.2.2.1 k := fun k hk => by rw [pget_pset, if_neg hk]
    refine ⟨_, _, h', ?_, fun k hk => ?_⟩
    · rw [aget_orm q.2.2.1 _ j j (fun h => absurd rfl h), if_pos rfl, pget_pset, if_pos rfl]
      have hv' : Value.int x = .int (nI n) := hv
      show Value.int x = .int (nI (n % 4294967296))
      rw [nI_mod]; exact hv'
    · rw [aget_orm q.2.2.1 _ j k (hp k), if_neg hk]
  all_goals exact oth h
theorem upd_at (f : Nat → Int32) (j : Nat) (x : Int32) (k : Nat) : upd f j x k = if k = j then x else f k := rfl
theorem cel_upd {ρ : List Nat} {o : Nat × Nat × Nat × List (Nat × AV)} {j : Nat} {x : Int32} {cA : ClassId} {f : Nat → Int32} {p' : Nat} {ov : List (Nat × AV)} (hty : tyK s cA (tyOf o.1)) (hN : o.2.1 ≤ 100000) (ht : o.1 ≤ 2) (hf : ∀ j, j < o.2.1 → cz G ρ (aget o.2.2.1 o.2.2.2 j) (.int (f j))) (h1 : cz G ρ (aget p' ov j) (.int x)) (h2 : ∀ k, k ≠ j → aget p' ov k = aget o.2.2.1 o.2.2.2 k) :
    celR s G ρ (cI o.1 o.2.1 p' ov) (.inl (cA, o.2.1, .inl (upd f j x))) := by
  refine ⟨cA, upd f j x, rfl, hty, hN, ht, fun k hk => ?_⟩
  show cz G ρ (aget p' ov k) (.int (upd f j x k))
  rw [upd_at]
  by_cases hkj : k = j
  · rw [if_pos hkj, hkj]; exact h1
  · rw [if_neg hkj, h2 k hkj]; exact hf k hk
theorem ok_iast (C : Cx cc own Ts p l s m args meth c D G A nL) {call : Call} (hdg : decode cc pc = .ok (.iastore, 1)) (hK : KOK p l e R s m args below meth c Q D G A ρ0 nL Pe (pc + 1) K) : KOK p l e R s m args below meth c Q D G A ρ0 nL Pe pc (op_iast call K) := by
  intro E n z L S M rs h he ρ H locs ls st h0 hE hM hS hL hs
  rcases S with _ | ⟨d, _ | ⟨b, _ | ⟨a, S⟩⟩⟩
  · cases h
  · cases h
  · rcases b with x | b | x | o | j | w | k | k <;> cases h
  obtain ⟨y, st2, rfl, hy, hs2⟩ := czs_cons hs
  obtain ⟨v, st1, rfl, hv, hs1⟩ := czs_cons hs2
  obtain ⟨u, st, rfl, hu, hs'⟩ := czs_cons hs1
  rcases b with j | b | x | o | i | w | k | k
  · rcases a with x | a | x | o | i | w | k | k
    · cases h
    · obtain ⟨q, hq, rfl⟩ := hu
      obtain ⟨ws, e0, g1, g2, g3, g4, g5, -⟩ := mem_at hM hq
      unfold op_iast at h
      obtain ⟨h5, h⟩ := gd_some h
      obtain ⟨x, rfl⟩ := cz_isI hy h5
      have hv' : v = .int (nI j) := hv
      subst hv'
      rcases hcel : tget 9 M a with o | o | o | o
      · simp only [hcel] at h; cases h
      · rw [hcel] at g2
        simp only [hcel] at h
        obtain ⟨h1, h2⟩ := gd_some h
        obtain ⟨h3, h4⟩ := gd_some h2
        obtain ⟨cA, f, rfl, hty, hN, ht2, hf⟩ := g2
        have hj : j < o.2.1 := Nat.le_of_ble_eq_true h3
        have hcl := clamp_nI hj hN
        obtain ⟨p', ov, k1, k2, k3⟩ := aset_ok h4 hy
        have hty0 : tyK s cA .int := by rw [Nat.eq_of_beq_eq_true h1] at hty; exact hty
        refine va_iast C.1 C.2.1 (K1 C.2.2.2.2.2.1 hty0) g3 g4 hS a 0 g1 rfl (vp_in_nI hj (by omega)) hdg (fun H1 locs1 r1 r2 r3 => ?_)
        rw [hcl] at r1 r2
        exact hK E n z L _ _ rs k1 he ρ H1 locs1 ls _ h0 hE (g5 H1 _ _ r1 r2 (cel_upd hty hN ht2 hf k2 k3)) r3 hL hs'
      · simp only [hcel] at h; cases h
      · simp only [hcel] at h; cases h
    all_goals cases h
  all_goals (rcases a with x | a | x | o | i | w | k | k <;> cases h)
theorem ok_bast (C : Cx cc own Ts p l s m args meth c D G A nL) {call : Call} (hdg : decode cc pc = .ok (.bastore, 1)) (hK : KOK p l e R s m args below meth c Q D G A ρ0 nL Pe (pc + 1) K) : KOK p l e R s m args below meth c Q D G A ρ0 nL Pe pc (op_bast call K) := by
  intro E n z L S M rs h he ρ H locs ls st h0 hE hM hS hL hs
  rcases S with _ | ⟨d, _ | ⟨b, _ | ⟨a, S⟩⟩⟩
  · cases h
  · cases h
  · rcases b with x | b | x | o | j | w | k | k <;> cases h
  obtain ⟨y, st2, rfl, hy, hs2⟩ := czs_cons hs
  obtain ⟨v, st1, rfl, hv, hs1⟩ := czs_cons hs2
  obtain ⟨u, st, rfl, hu, hs'⟩ := czs_cons hs1
  rcases b with j | b | x | o | i | w | k | k
  · rcases a with x | a | x | o | i | w | k | k
    · cases h
    · obtain ⟨q, hq, rfl⟩ := hu
      obtain ⟨ws, e0, g1, g2, g3, g4, g5, -⟩ := mem_at hM hq
      unfold op_bast at h
      obtain ⟨h5, h⟩ := gd_some h
      obtain ⟨x, rfl⟩ := cz_isI hy h5
      have hv' : v = .int (nI j) := hv
      subst hv'
      rcases hcel : tget 9 M a with o | o | o | o
      · simp only [hcel] at h; cases h
      · rw [hcel] at g2
        simp only [hcel] at h
        obtain ⟨h3, h4⟩ := gd_some h
        obtain ⟨cA, f, rfl, hty, hN, ht2, hf⟩ := g2
        have hj : j < o.2.1 := Nat.le_of_ble_eq_true h3
        have hcl := clamp_nI hj hN
        cases hb2 : Nat.beq o.1 2 with
        | false =>
          rw [hb2] at h4
          obtain ⟨h1, h6⟩ := gd_some (show gd (Nat.beq o.1 1) (unK (fun x => toN (nI x).toInt8.toInt32) d fun v => aset o j v fun c => K E n z L S (tset 9 M a c)) = some rs from h4)
          obtain ⟨w, hw, hcw⟩ := unK_ok (op := fun x => x.toInt8.toInt32) h6 hy (fun u => nI_toN _)
          obtain ⟨p', ov, k1, k2, k3⟩ := aset_ok hw hcw
          have hty0 : tyK s cA .byte := by rw [Nat.eq_of_beq_eq_true h1] at hty; exact hty
          refine va_bast C.1 C.2.1 (K1 C.2.2.2.2.2.1 hty0) g3 g4 hS a 0 g1 rfl (vp_in_nI hj (by omega)) hdg (fun H1 locs1 r1 r2 r3 => ?_)
          rw [hcl] at r1 r2
          exact hK E n z L _ _ rs k1 he ρ H1 locs1 ls _ h0 hE (g5 H1 _ _ r1 r2 (cel_upd hty hN ht2 hf k2 k3)) r3 hL hs'
        | true =>
          rw [hb2] at h4
          obtain ⟨h1, h6⟩ := gd_some (show gd (isZ d) (aset o j d fun c => K E n z L S (tset 9 M a c)) = some rs from h4)
          obtain ⟨k, hk, rfl, hxx⟩ := cz_isZ hy h1
          have hxx' : x = nI k := Value.int.inj hxx
          obtain ⟨p', ov, k1, k2, k3⟩ := aset_ok h6 hy
          have hty0 : tyK s cA .boolean := by rw [Nat.eq_of_beq_eq_true hb2] at hty; exact hty
          have hnz : vp_nar .boolean x = x := by rw [hxx']; rcases (show k = 0 ∨ k = 1 by omega) with rfl | rfl <;> decide +kernel
          refine va_zast C.1 C.2.1 (K1 C.2.2.2.2.2.1 hty0) g3 g4 hS a 0 g1 rfl (vp_in_nI hj (by omega)) hdg (fun H1 locs1 r1 r2 r3 => ?_)
          rw [hcl, hnz] at r1 r2
          exact hK E n z L _ _ rs k1 he ρ H1 locs1 ls _ h0 hE (g5 H1 _ _ r1 r2 (cel_upd hty hN ht2 hf k2 k3)) r3 hL hs'
      · simp only [hcel] at h; cases h
      · simp only [hcel] at h; cases h
    all_goals cases h
  all_goals (rcases a with x | a | x | o | i | w | k | k <;> cases h)
theorem ok_aald (C : Cx cc own Ts p l s m args meth c D G A nL) {call : Call} (hdg : decode cc pc = .ok (.aaload, 1)) (hK : KOK p l e R s m args below meth c Q D G A ρ0 nL Pe (pc + 1) K) : KOK p l e R s m args below meth c Q D G A ρ0 nL Pe pc (op_aald call K) := by
  intro E n z L S M rs h he ρ H locs ls st h0 hE hM hS hL hs
  rcases S with _ | ⟨b, _ | ⟨a, S⟩⟩
  · cases h
  · rcases b with x | b | x | o | j | w | k | k <;> cases h
  obtain ⟨v, st1, rfl, hv, hs1⟩ := czs_cons hs
  obtain ⟨u, st, rfl, hu, hs'⟩ := czs_cons hs1
  rcases b with j | b | x | o | i | w | k | k
  · rcases a with x | a | x | o | i | w | k | k
    · cases h
    · obtain ⟨q, hq, rfl⟩ := hu
      obtain ⟨ws, e0, g1, g2, g3, g4, -, -⟩ := mem_at hM hq
      unfold op_aald at h
      have hv' : v = .int (nI j) := hv
      subst hv'
      rcases hcel : tget 9 M a with o | o | o | o
      · simp only [hcel] at h; cases h
      · simp only [hcel] at h; cases h
      · rw [hcel] at g2
        simp only [hcel] at h
        obtain ⟨h3, h4⟩ := gd_some h
        have hj : j < o.2.length := Nat.le_of_ble_eq_true h3
        have g2' : o.2 = [] ∨ _ := g2
        rcases g2' with g2' | ⟨cA, f, r, rfl, hr, hty, hN, hf⟩
        · rw [g2'] at hj; exact absurd hj (Nat.not_lt_zero _)
        have hcl := clamp_nI hj hN
        refine va_aldq C.1 C.2.1 (K1 C.2.2.2.2.2.1 hty) g3 a 0 g1 rfl (vp_in_nI hj (by omega)) hdg ?_
        rw [hcl]
        exact hK E n z L _ M rs h4 he ρ H locs ls _ h0 hE hM hS hL ⟨hf j hj, hs'⟩
      · simp only [hcel] at h; cases h
    all_goals cases h
  all_goals (rcases a with x | a | x | o | i | w | k | k <;> cases h)
theorem ok_lald (C : Cx cc own Ts p l s m args meth c D G A nL) {call : Call} (hdg : decode cc pc = .ok (.laload, 1)) (hK : KOK p l e R s m args below meth c Q D G A ρ0 nL Pe (pc + 1) K) : KOK p l e R s m args below meth c Q D G A ρ0 nL Pe pc (op_lald call K) := by
  intro E n z L S M rs h he ρ H locs ls st h0 hE hM hS hL hs
  rcases S with _ | ⟨b, _ | ⟨a, S⟩⟩
  · cases h
  · rcases b with x | b | x | o | j | w | k | k <;> cases h
  obtain ⟨v, st1, rfl, hv, hs1⟩ := czs_cons hs
  obtain ⟨u, st, rfl, hu, hs'⟩ := czs_cons hs1
  rcases b with j | b | x | o | i | w | k | k
  · rcases a with x | a | x | o | i | w | k | k
    · cases h
    · obtain ⟨q, hq, rfl⟩ := hu
      obtain ⟨ws, e0, g1, g2, g3, g4, -, -⟩ := mem_at hM hq
      unfold op_lald at h
      have hv' : v = .int (nI j) := hv
      subst hv'
      rcases hcel : tget 9 M a with o | o | o | o
      · simp only [hcel] at h; cases h
      · simp only [hcel] at h; cases h
      · simp only [hcel] at h; cases h
      · rw [hcel] at g2
        simp only [hcel] at h
        obtain ⟨h3, h4⟩ := gd_some h
        obtain ⟨cA, f, rfl, hty, hN, hf⟩ := g2
        have hj : j < o.length := Nat.le_of_ble_eq_true h3
        have hcl := clamp_nI hj hN
        refine va_lald C.1 C.2.1 (K1 C.2.2.2.2.2.1 hty) g3 a 0 g1 rfl (vp_in_nI hj (by omega)) hdg ?_
        rw [hcl]
        exact hK E n z L _ M rs h4 he ρ H locs ls _ h0 hE hM hS hL ⟨hf j hj, hs'⟩
    all_goals cases h
  all_goals (rcases a with x | a | x | o | i | w | k | k <;> cases h)
theorem ok_last (C : Cx cc own Ts p l s m args meth c D G A nL) {call : Call} (hdg : decode cc pc = .ok (.lastore, 1)) (hK : KOK p l e R s m args below meth c Q D G A ρ0 nL Pe (pc + 1) K) : KOK p l e R s m args below meth c Q D G A ρ0 nL Pe pc (op_last call K) := by
  intro E n z L S M rs h he ρ H locs ls st h0 hE hM hS hL hs
  rcases S with _ | ⟨d, _ | ⟨b, _ | ⟨a, S⟩⟩⟩
  · cases h
  · cases h
  · rcases b with x | b | x | o | j | w | k | k <;> cases h
  obtain ⟨y, st2, rfl, hy, hs2⟩ := czs_cons hs
  obtain ⟨v, st1, rfl, hv, hs1⟩ := czs_cons hs2
  obtain ⟨u, st, rfl, hu, hs'⟩ := czs_cons hs1
  rcases b with j | b | x | o | i | w | k | k
  · rcases a with x | a | x | o | i | w | k | k
    · cases h
    · obtain ⟨q, hq, rfl⟩ := hu
      obtain ⟨ws, e0, g1, g2, g3, g4, g5, -⟩ := mem_at hM hq
      unfold op_last at h
      obtain ⟨h5, h⟩ := gd_some h
      obtain ⟨x, rfl⟩ := cz_isJ hy h5
      have hv' : v = .int (nI j) := hv
      subst hv'
      rcases hcel : tget 9 M a with o | o | o | o
      · simp only [hcel] at h; cases h
      · simp only [hcel] at h; cases h
      · simp only [hcel] at h; cases h
      · rw [hcel] at g2
        simp only [hcel] at h
        obtain ⟨h3, h4⟩ := gd_some h
        obtain ⟨cA, f, rfl, hty, hN, hf⟩ := g2
        have hj : j < o.length := Nat.le_of_ble_eq_true h3
        have hcl := clamp_nI hj hN
        refine va_last C.1 C.2.1 (K1 C.2.2.2.2.2.1 hty) g3 g4 hS a 0 g1 rfl (vp_in_nI hj (by omega)) hdg (fun H1 locs1 r1 r2 r3 => ?_)
        rw [hcl] at r1 r2
        refine hK E n z L _ _ rs h4 he ρ H1 locs1 ls _ h0 hE (g5 H1 _ _ r1 r2 ⟨cA, vp_updL f j x, by rw [nst_len], hty, by rw [nst_len]; exact hN, fun k hk => ?_⟩) r3 hL hs'
        rw [nst_len] at hk
        rw [nth_nst]
        show cz G ρ _ (.long (if k = j then x else f k))
        by_cases hkj : k = j
        · rw [if_pos ⟨hkj, hj⟩, if_pos hkj]; exact hy
        · rw [if_neg (fun h => hkj h.1), if_neg hkj]; exact hf k hk
    all_goals cases h
  all_goals (rcases a with x | a | x | o | i | w | k | k <;> cases h)
theorem ok_alen (C : Cx cc own Ts p l s m args meth c D G A nL) {call : Call} (hdg : decode cc pc = .ok (.arraylength, 1)) (hK : KOK p l e R s m args below meth c Q D G A ρ0 nL Pe (pc + 1) K) : KOK p l e R s m args below meth c Q D G A ρ0 nL Pe pc (op_alen call K) := by
  intro E n z L S M rs h he ρ H locs ls st h0 hE hM hS hL hs
  rcases S with _ | ⟨a, S⟩
  · cases h
  obtain ⟨u, st, rfl, hu, hs'⟩ := czs_cons hs
  rcases a with x | a | x | o | i | w | k | k
  · cases h
  · obtain ⟨q, hq, rfl⟩ := hu
    obtain ⟨ws, e0, g1, g2, g3, g4, -, -⟩ := mem_at hM hq
    unfold op_alen at h
    rcases hcel : tget 9 M a with o | o | o | o
    · simp only [hcel] at h; cases h
    · rw [hcel] at g2
      simp only [hcel] at h
      obtain ⟨cA, f, rfl, hty, hN, -, hf⟩ := g2
      exact va_alen C.1 C.2.1 (K1 C.2.2.2.2.2.1 hty) g3 a 0 g1 rfl (v := nI o.2.1) rfl hdg (hK E n z L _ M rs h he ρ H locs ls _ h0 hE hM hS hL ⟨rfl, hs'⟩)
    · simp only [hcel] at h; cases h
    · simp only [hcel] at h; cases h
  all_goals cases h
theorem ok_aast (C : Cx cc own Ts p l s m args meth c D G A nL) {call : Call} {ci : Nat} (hdg : decode cc pc = .ok (.aastore, 1)) (hK : KOK p l e R s m args below meth c Q D G A ρ0 nL Pe (pc + 1) K) : KOK p l e R s m args below meth c Q D G A ρ0 nL Pe pc (op_aast ci call K) := by
  intro E n z L S M rs h he ρ H locs ls st h0 hE hM hS hL hs
  rcases S with _ | ⟨d, _ | ⟨b, _ | ⟨a, S⟩⟩⟩
  · cases h
  · rcases d with x | b | x | o | j | w | k | k <;> cases h
  · rcases d with x | d | x | o | j | w | k | k
    · cases h
    · rcases b with x | b | x | o | j | w | k | k <;> cases h
    all_goals cases h
  obtain ⟨y, st2, rfl, hy, hs2⟩ := czs_cons hs
  obtain ⟨v, st1, rfl, hv, hs1⟩ := czs_cons hs2
  obtain ⟨u, st, rfl, hu, hs'⟩ := czs_cons hs1
  rcases d with x | d | x | o | i | w | k | k
  · cases h
  · rcases b with j | b | x | o | i | w | k | k
    · rcases a with x | a | x | o | i | w | k | k
      · cases h
      · obtain ⟨q, hq, rfl⟩ := hu
        obtain ⟨q2, hq2, rfl⟩ := hy
        obtain ⟨ws, e0, g1, g2, g3, g4, g5, g6⟩ := mem_at hM hq
        obtain ⟨e2, f1, f2⟩ := g6 d q2 hq2
        unfold op_aast at h
        have hv' : v = .int (nI j) := hv
        subst hv'
        rcases hcel : tget 9 M a with o | o | o | o
        · simp only [hcel] at h; cases h
        · simp only [hcel] at h; cases h
        · rcases hcel2 : tget 9 M d with o' | o'
          · rw [hcel] at g2
            rw [hcel2] at f2
            simp only [hcel, hcel2] at h
            obtain ⟨h1, h2⟩ := gd_some h
            obtain ⟨h3, h4⟩ := gd_some h2
            obtain ⟨h5, h6⟩ := gd_some h4
            have hj : j < o.2.length := Nat.le_of_ble_eq_true h5
            have g2' : o.2 = [] ∨ _ := g2
            rcases g2' with g2' | ⟨cA, f, r, rfl, hr, hty, hN, hf⟩
            · rw [g2'] at hj; exact absurd hj (Nat.not_lt_zero _)
            obtain ⟨vs, rfl, -⟩ := f2
            have hcl := clamp_nI hj hN
            have ec : o'.1 = o.1 := by rw [Nat.eq_of_beq_eq_true h1, Nat.eq_of_beq_eq_true h3]
            rw [ec] at f1
            refine va_astq C.1 C.2.1 (K1 C.2.2.2.2.2.1 hty) g3 g4 hS a 0 d o.1 g1 rfl f1 hr (vp_in_nI hj (by omega)) hdg (fun H1 locs1 r1 r2 r3 => ?_)
            rw [hcl] at r1 r2
            refine hK E n z L _ _ rs h6 he ρ H1 locs1 ls _ h0 hE (g5 H1 _ _ r1 r2 (Or.inr ⟨cA, va_up f j (some q2), r, by rw [nst_len], hr, hty, by rw [nst_len]; exact hN, fun k hk => ?_⟩)) r3 hL hs'
            rw [nst_len] at hk
            rw [nth_nst]
            show cz G ρ _ (va_rf (if k = j then some q2 else f k))
            by_cases hkj : k = j
            · rw [if_pos ⟨hkj, hj⟩, if_pos hkj]; exact ⟨q2, hq2, rfl⟩
            · rw [if_neg (fun h => hkj h.1), if_neg hkj]; exact hf k hk
          · simp only [hcel, hcel2] at h; cases h
        · simp only [hcel] at h; cases h
      all_goals cases h
    all_goals (rcases a with x | a | x | o | i | w | k | k <;> cases h)
  all_goals (rcases b with j | b | x | o | i | w | k | k <;> (rcases a with x | a | x | o | i | w | k | k <;> cases h))
theorem ok_oinit (C : Cx cc own Ts p l s m args meth c D G A nL) {call : Call} {idx : Nat} (hlink : (Cond.methodLink own idx Lib.objectInit).before args s = true) (hinst : (Cond.instanceMethod Lib.objectInit).before args s = true) (hcode : (Cond.code Lib.objectInit ⟨#[0xb1]⟩ 1 none).before args s = true) (hfr : 1 ≤ R.frames) (hlo : 12 ≤ R.locals) (hdg : decode cc pc = .ok (.invokespecial idx, 3)) (hK : KOK p l e R s m args below meth c Q D G A ρ0 nL Pe (pc + 3) K) : KOK p l e R s m args below meth c Q D G A ρ0 nL Pe pc (op_oinit call K) := by
  intro E n z L S M rs h he ρ H locs ls st h0 hE hM hS hL hs
  rcases S with _ | ⟨a, S⟩
  · cases h
  obtain ⟨u, st, rfl, hu, hs'⟩ := czs_cons hs
  rcases a with x | a | x | o | i | w | k | k
  · cases h
  · rcases S with _ | ⟨b, S⟩
    · obtain ⟨q, hq, rfl⟩ := hu
      have h' : K E n z L [] M = some rs := h
      rcases st with _ | ⟨b, st⟩
      · exact W.objInit C.1 C.2.1 C.2.2.2.1 hlink hinst hcode rfl (hL.1.trans C.2.2.1.symm) rfl hdg hfr (by show 2 * 0 + 0 + 12 ≤ R.locals; omega) (hK E n z L [] M rs h' he ρ H locs ls [] h0 hE hM hS hL hs')
      · exact hs'.elim
    · cases h
  all_goals cases h
theorem ok_sld (C : Cx cc own Ts p l s m args meth c D G A nL) {call : Call} {N : Nat} (hX : va_X G.2.2 N G.1 s s.heap) (hbl : G.2.2 < s.heap.size) (hbA : ¬ A G.2.2) (hN : N ≤ 100000) (hdg : decode cc pc = .ok (.iaload, 1)) (hK : KOK p l e R s m args below meth c Q D G A ρ0 nL Pe (pc + 1) K) : KOK p l e R s m args below meth c Q D G A ρ0 nL Pe pc (op_sld N call K) := by
  intro E n z L S M rs h he ρ H locs ls st h0 hE hM hS hL hs
  rcases S with _ | ⟨b, _ | ⟨a, S⟩⟩
  · cases h
  · rcases b with x | b | x | o | j | w | k | k <;> cases h
  obtain ⟨v, st1, rfl, hv, hs1⟩ := czs_cons hs
  obtain ⟨u, st, rfl, hu, hs'⟩ := czs_cons hs1
  rcases b with j | b | x | o | i | w | k | k
  · rcases a with x | a | x | o | i | w | k | k
    · cases h
    · cases h
    · cases h
    · cases h
    · cases h
    · obtain ⟨h1, h2⟩ := gd_some (show gd (Nat.beq w 2) (gd (Nat.ble (j + 1) N) (Bool.rec (K E n z L (vX (some (j, 0)) :: S) M) (K E n z L (vI (bi (nthE E j).1) :: S) M) (Nat.beq (nthE E j).1 (nthE E j).2))) = some rs from h)
      obtain ⟨h3, h4⟩ := gd_some h2
      have hw := Nat.eq_of_beq_eq_true h1
      have hj : j < N := Nat.le_of_ble_eq_true h3
      have hv' : v = .int (nI j) := hv
      subst hv'
      have hu2 : u = .ref G.2.2 := by
        rcases hu with ⟨q, -⟩ | ⟨q, -⟩ | ⟨-, q⟩ | ⟨q, -⟩ | ⟨q, -⟩
        · omega
        · omega
        · exact q
        · omega
        · omega
      subst hu2
      refine va_sld C.1 C.2.1 hX hbl hbA hS (vp_in_nI hj (by omega)) hdg ?_
      rw [clamp_nI hj hN]
      cases hp : Nat.beq (nthE E j).1 (nthE E j).2 with
      | false =>
        rw [hp] at h4
        refine hK E n z L _ M rs (show K E n z L (vX (some (j, 0)) :: S) M = some rs from h4) he ρ H locs ls _ h0 hE hM hS hL ⟨?_, hs'⟩
        show Value.int (G.1 j) = .int (G.1 j + nI 0)
        rw [show nI 0 = 0 from rfl]
        simp
      | true =>
        rw [hp] at h4
        refine hK E n z L _ M rs (show K E n z L (vI (bi (nthE E j).1) :: S) M = some rs from h4) he ρ H locs ls _ h0 hE hM hS hL ⟨?_, hs'⟩
        show Value.int (G.1 j) = .int (nI (bi (nthE E j).1))
        rw [← envR_pt hE hp]
    · cases h
    · cases h
  all_goals (rcases a with x | a | x | o | i | w | k | k <;> cases h)
theorem ok_slen (C : Cx cc own Ts p l s m args meth c D G A nL) {call : Call} {N : Nat} (hX : va_X G.2.2 N G.1 s s.heap) (hbl : G.2.2 < s.heap.size) (hbA : ¬ A G.2.2) (hdg : decode cc pc = .ok (.arraylength, 1)) (hK : KOK p l e R s m args below meth c Q D G A ρ0 nL Pe (pc + 1) K) : KOK p l e R s m args below meth c Q D G A ρ0 nL Pe pc (op_slen N call K) := by
  intro E n z L S M rs h he ρ H locs ls st h0 hE hM hS hL hs
  rcases S with _ | ⟨a, S⟩
  · cases h
  obtain ⟨u, st, rfl, hu, hs'⟩ := czs_cons hs
  rcases a with x | a | x | o | i | w | k | k
  · cases h
  · cases h
  · cases h
  · cases h
  · cases h
  · obtain ⟨h1, h2⟩ := gd_some (show gd (Nat.beq w 2) (K E n z L (vI N :: S) M) = some rs from h)
    have hw := Nat.eq_of_beq_eq_true h1
    have hu2 : u = .ref G.2.2 := by
      rcases hu with ⟨q, -⟩ | ⟨q, -⟩ | ⟨-, q⟩ | ⟨q, -⟩ | ⟨q, -⟩
      · omega
      · omega
      · exact q
      · omega
      · omega
    subst hu2
    exact va_slen C.1 C.2.1 hX hbl hbA hS hdg (hK E n z L _ M rs h2 he ρ H locs ls _ h0 hE hM hS hL ⟨rfl, hs'⟩)
  · cases h
  · cases h
end OPM
end
section
/-! new cells, copies, compares of longs, floats -/
section OPN
variable {p : Program} {l : Launch} {e : Env} {R : Room} {s : State} {m : MethodId} {args : Array Value} {below : List Frame} {meth : Method} {c : Code} {Q : State → Prop} {D : va_G} {G : Gam} {A : Nat → Prop} {ρ0 : List Nat} {nL : Nat} {Pe : Res → Prop} {cc : ByteArray} {own : String} {Ts : List Cond} {pc : Nat} {K : KK}
theorem ok_new (C : Cx cc own Ts p l s m args meth c D G A nL) {call : Call} {B index ci N : Nat} {Cn : String} {T : u_T} {ty : Nat → FieldType} {fs : List AV} {vs : List Value} (hc : vwCl[ci]? = some (Cn, T, N)) (hin : ∀ w ∈ u_ws Cn T N, w ∈ Ts) (hty : ∀ k, k < N → parseFieldDescriptor (T k).2.2.1 = some (ty k)) (hcl : Cond.classLink own index Cn ∈ Ts) (hinst : Cond.instantiable Cn N ∈ Ts) (hini : Cond.initialized Cn ∈ Ts)
    (hfs : ∀ j, j < N → defaultValue (ty j) = vp_V vs j) (hcz : ∀ ρ, czs G ρ fs vs) (hB : R.cells = B ∧ R.slots = B) (hdg : decode cc pc = .ok (.new index, 3)) (hK : KOK p l e R s m args below meth c Q D G A ρ0 nL Pe (pc + 3) K) : KOK p l e R s m args below meth c Q D G A ρ0 nL Pe pc (op_new B N (cO ci fs) call K) := by
  intro E n z L S M rs h he ρ H locs ls st h0 hE hM hS hL hs
  obtain ⟨h1, h2⟩ := gd_some (show gd (Nat.ble (n + 1) 512) (gd (Nat.ble (z + N + 1) B) (fN (n + 1) fun n' => fN (z + N + 1) fun z' => K E n' z' L (vR n :: S) (tset 9 M n (cO ci fs)))) = some rs from h)
  obtain ⟨h3, h4⟩ := gd_some h2
  rw [fN_eq, fN_eq] at h4
  have h1 := Nat.le_of_ble_eq_true h1
  have h3 := Nat.le_of_ble_eq_true h3
  obtain ⟨ws, w1, w2, w3, w4, w5, w6⟩ := hM
  refine va_new (ws := ws) C.1 C.2.1 C.2.2.2.2.1 hin ty hty C.2.2.2.1 (C.2.2.2.2.1 _ hcl) (C.2.2.2.2.1 _ hinst) (C.2.2.2.2.1 _ hini) C.2.2.2.2.2.1 w5 w6 hS C.2.2.2.2.2.2 hc hfs (by omega) (by omega) hdg (fun q H1 r1 r2 r3 => ?_)
  refine W.widen (k := z + N + 1) (n := z + N + 1) (by omega) (by omega) ?_
  have hp : ρ <+: ρ ++ [q] := List.prefix_append _ _
  exact hK E _ _ L _ _ rs h4 he (ρ ++ [q]) H1 locs ls _ (h0.trans hp) hE (mem_new w1 w2 h1 w4 r1 r2 ⟨vs, rfl, hcz _⟩) r3 (locR_mono hp hL) ⟨⟨q, by rw [List.getElem?_append_right (by omega), w2]; simp, rfl⟩, czs_mono hp hs⟩
theorem rep_len (v : AV) : ∀ N, (repA v N).length = N := by
  intro N
  induction N with
  | zero => rfl
  | succ N ih => show (v :: repA v N).length = _; rw [List.length_cons, ih]
theorem rep_nth (v : AV) : ∀ N j, j < N → nth (repA v N) j = v := by
  intro N
  induction N with
  | zero => intro j h; omega
  | succ N ih =>
    intro j h
    cases j with
    | zero => rfl
    | succ j => exact ih j (by omega)
theorem aget_0 (j : Nat) : aget 0 [] j = vI 0 := by
  show vI (pget 0 j) = vI 0
  unfold pget
  simp
theorem hby {N : Nat} {ty : FieldType} (h : N ≤ 100000) (h8 : componentBytes ty ≤ 8) : N * componentBytes ty ≤ 536870912 := by
  have := Nat.mul_le_mul h h8
  omega
theorem newa_of (C : Cx cc own Ts p l s m args meth c D G A nL) {B N n z : Nat} {L S : List AV} {M : Mem} {f : Nat → Cel} {call : Call} {E : Env9} {rs : List Res} (h : op_newa B f call K E n z L (vI N :: S) M = some rs) : N ≤ 100000 ∧ n + 1 ≤ 512 ∧ z + N + 1 ≤ B ∧ K E (n + 1) (z + N + 1) L (vR n :: S) (tset 9 M n (f N)) = some rs := by
  obtain ⟨h1, h2⟩ := gd_some (show gd (Nat.ble N 100000) (gd (Nat.ble (n + 1) 512) (gd (Nat.ble (z + N + 1) B) (fN (n + 1) fun n' => fN (z + N + 1) fun z' => K E n' z' L (vR n :: S) (tset 9 M n (f N))))) = some rs from h)
  obtain ⟨h3, h4⟩ := gd_some h2
  obtain ⟨h5, h6⟩ := gd_some h4
  rw [fN_eq, fN_eq] at h6
  exact ⟨Nat.le_of_ble_eq_true h1, Nat.le_of_ble_eq_true h3, Nat.le_of_ble_eq_true h5, h6⟩
theorem nneg {N : Nat} (h : N ≤ 100000) : ¬ nI N < 0 := nI_pos (by omega)
theorem ok_newI (C : Cx cc own Ts p l s m args meth c D G A nL) {call : Call} {B : Nat} (harr : Cond.arrayClass .int ∈ Ts) (hB : R.cells = B ∧ R.slots = B) (hdg : decode cc pc = .ok (.newarray .int, 2)) (hK : KOK p l e R s m args below meth c Q D G A ρ0 nL Pe (pc + 2) K) : KOK p l e R s m args below meth c Q D G A ρ0 nL Pe pc (op_newa B (fun N => cI 0 N 0 []) call K) := by
  intro E n z L S M rs h he ρ H locs ls st h0 hE hM hS hL hs
  rcases S with _ | ⟨a, S⟩
  · cases h
  obtain ⟨u, st, rfl, hu, hs'⟩ := czs_cons hs
  rcases a with N | a | x | o | i | w | k | k
  · obtain ⟨hN, h1, h3, h4⟩ := newa_of C h
    have hu' : u = .int (nI N) := hu
    subst hu'
    obtain ⟨ws, w1, w2, w3, w4, w5, w6⟩ := hM
    refine va_newa (ws := ws) (atype := .int) (ty := .int) (a0 := (N, .inl (fun _ => 0))) C.1 C.2.1 (C.2.2.2.2.1 _ harr) rfl C.2.2.2.2.2.1 w5 w6 hS C.2.2.2.2.2.2 (N' := N) (fun _ => rfl) (nneg hN) (nI_clamp (by omega)) (hby hN (show componentBytes .int ≤ 8 by decide)) (by omega) (by omega) hdg (fun q cA H1 r0 r1 r2 r3 => ?_)
    refine W.widen (k := z + N + 1) (n := z + N + 1) (by omega) (by omega) ?_
    have hp : ρ <+: ρ ++ [q] := List.prefix_append _ _
    exact hK E _ _ L _ _ rs h4 he (ρ ++ [q]) H1 locs ls _ (h0.trans hp) hE (mem_new w1 w2 h1 w4 r1 r2 ⟨cA, fun _ => 0, rfl, r0.2 0 _ rfl, hN, by show 0 ≤ 2; omega, fun j _ => by show cz G _ (aget 0 [] j) _; rw [aget_0]; exact rfl⟩) r3 (locR_mono hp hL) ⟨⟨q, by rw [List.getElem?_append_right (by omega), w2]; simp, rfl⟩, czs_mono hp hs'⟩
  all_goals cases h
theorem ok_newB (C : Cx cc own Ts p l s m args meth c D G A nL) {call : Call} {B : Nat} (harr : Cond.arrayClass .byte ∈ Ts) (hB : R.cells = B ∧ R.slots = B) (hdg : decode cc pc = .ok (.newarray .byte, 2)) (hK : KOK p l e R s m args below meth c Q D G A ρ0 nL Pe (pc + 2) K) : KOK p l e R s m args below meth c Q D G A ρ0 nL Pe pc (op_newa B (fun N => cI 1 N 0 []) call K) := by
  intro E n z L S M rs h he ρ H locs ls st h0 hE hM hS hL hs
  rcases S with _ | ⟨a, S⟩
  · cases h
  obtain ⟨u, st, rfl, hu, hs'⟩ := czs_cons hs
  rcases a with N | a | x | o | i | w | k | k
  · obtain ⟨hN, h1, h3, h4⟩ := newa_of C h
    have hu' : u = .int (nI N) := hu
    subst hu'
    obtain ⟨ws, w1, w2, w3, w4, w5, w6⟩ := hM
    refine va_newa (ws := ws) (atype := .byte) (ty := .byte) (a0 := (N, .inl (fun _ => 0))) C.1 C.2.1 (C.2.2.2.2.1 _ harr) rfl C.2.2.2.2.2.1 w5 w6 hS C.2.2.2.2.2.2 (N' := N) (fun _ => rfl) (nneg hN) (nI_clamp (by omega)) (hby hN (show componentBytes .byte ≤ 8 by decide)) (by omega) (by omega) hdg (fun q cA H1 r0 r1 r2 r3 => ?_)
    refine W.widen (k := z + N + 1) (n := z + N + 1) (by omega) (by omega) ?_
    have hp : ρ <+: ρ ++ [q] := List.prefix_append _ _
    exact hK E _ _ L _ _ rs h4 he (ρ ++ [q]) H1 locs ls _ (h0.trans hp) hE (mem_new w1 w2 h1 w4 r1 r2 ⟨cA, fun _ => 0, rfl, r0.2 0 _ rfl, hN, by show 1 ≤ 2; omega, fun j _ => by show cz G _ (aget 0 [] j) _; rw [aget_0]; exact rfl⟩) r3 (locR_mono hp hL) ⟨⟨q, by rw [List.getElem?_append_right (by omega), w2]; simp, rfl⟩, czs_mono hp hs'⟩
  all_goals cases h
theorem ok_newZ (C : Cx cc own Ts p l s m args meth c D G A nL) {call : Call} {B : Nat} (harr : Cond.arrayClass .boolean ∈ Ts) (hB : R.cells = B ∧ R.slots = B) (hdg : decode cc pc = .ok (.newarray .boolean, 2)) (hK : KOK p l e R s m args below meth c Q D G A ρ0 nL Pe (pc + 2) K) : KOK p l e R s m args below meth c Q D G A ρ0 nL Pe pc (op_newa B (fun N => cI 2 N 0 []) call K) := by
  intro E n z L S M rs h he ρ H locs ls st h0 hE hM hS hL hs
  rcases S with _ | ⟨a, S⟩
  · cases h
  obtain ⟨u, st, rfl, hu, hs'⟩ := czs_cons hs
  rcases a with N | a | x | o | i | w | k | k
  · obtain ⟨hN, h1, h3, h4⟩ := newa_of C h
    have hu' : u = .int (nI N) := hu
    subst hu'
    obtain ⟨ws, w1, w2, w3, w4, w5, w6⟩ := hM
    refine va_newa (ws := ws) (atype := .boolean) (ty := .boolean) (a0 := (N, .inl (fun _ => 0))) C.1 C.2.1 (C.2.2.2.2.1 _ harr) rfl C.2.2.2.2.2.1 w5 w6 hS C.2.2.2.2.2.2 (N' := N) (fun _ => rfl) (nneg hN) (nI_clamp (by omega)) (hby hN (show componentBytes .boolean ≤ 8 by decide)) (by omega) (by omega) hdg (fun q cA H1 r0 r1 r2 r3 => ?_)
    refine W.widen (k := z + N + 1) (n := z + N + 1) (by omega) (by omega) ?_
    have hp : ρ <+: ρ ++ [q] := List.prefix_append _ _
    exact hK E _ _ L _ _ rs h4 he (ρ ++ [q]) H1 locs ls _ (h0.trans hp) hE (mem_new w1 w2 h1 w4 r1 r2 ⟨cA, fun _ => 0, rfl, r0.2 0 _ rfl, hN, by show 2 ≤ 2; omega, fun j _ => by show cz G _ (aget 0 [] j) _; rw [aget_0]; exact rfl⟩) r3 (locR_mono hp hL) ⟨⟨q, by rw [List.getElem?_append_right (by omega), w2]; simp, rfl⟩, czs_mono hp hs'⟩
  all_goals cases h
theorem ok_newL (C : Cx cc own Ts p l s m args meth c D G A nL) {call : Call} {B : Nat} (harr : Cond.arrayClass .long ∈ Ts) (hB : R.cells = B ∧ R.slots = B) (hdg : decode cc pc = .ok (.newarray .long, 2)) (hK : KOK p l e R s m args below meth c Q D G A ρ0 nL Pe (pc + 2) K) : KOK p l e R s m args below meth c Q D G A ρ0 nL Pe pc (op_newa B (fun N => cL (repA (vJ 0) N)) call K) := by
  intro E n z L S M rs h he ρ H locs ls st h0 hE hM hS hL hs
  rcases S with _ | ⟨a, S⟩
  · cases h
  obtain ⟨u, st, rfl, hu, hs'⟩ := czs_cons hs
  rcases a with N | a | x | o | i | w | k | k
  · obtain ⟨hN, h1, h3, h4⟩ := newa_of C h
    have hu' : u = .int (nI N) := hu
    subst hu'
    obtain ⟨ws, w1, w2, w3, w4, w5, w6⟩ := hM
    refine va_newa (ws := ws) (atype := .long) (ty := .long) (a0 := (N, .inr (.inl (fun _ => 0)))) C.1 C.2.1 (C.2.2.2.2.1 _ harr) rfl C.2.2.2.2.2.1 w5 w6 hS C.2.2.2.2.2.2 (N' := N) (fun _ => rfl) (nneg hN) (nI_clamp (by omega)) (hby hN (show componentBytes .long ≤ 8 by decide)) (by omega) (by omega) hdg (fun q cA H1 r0 r1 r2 r3 => ?_)
    refine W.widen (k := z + N + 1) (n := z + N + 1) (by omega) (by omega) ?_
    have hp : ρ <+: ρ ++ [q] := List.prefix_append _ _
    exact hK E _ _ L _ _ rs h4 he (ρ ++ [q]) H1 locs ls _ (h0.trans hp) hE (mem_new w1 w2 h1 w4 r1 r2 ⟨cA, fun _ => 0, by rw [rep_len], r0.2 0 _ rfl, by rw [rep_len]; exact hN, fun j hj => by rw [rep_len] at hj; rw [rep_nth _ _ _ hj]; exact rfl⟩) r3 (locR_mono hp hL) ⟨⟨q, by rw [List.getElem?_append_right (by omega), w2]; simp, rfl⟩, czs_mono hp hs'⟩
  all_goals cases h
theorem ok_anew (C : Cx cc own Ts p l s m args meth c D G A nL) {call : Call} {B index ci : Nat} {r : vw_C} (hc : vwCl[ci]? = some r) (hcl : Cond.classLink own index r.1 ∈ Ts) (hov : va_AO r.1 s) (hB : R.cells = B ∧ R.slots = B) (hdg : decode cc pc = .ok (.anewarray index, 3)) (hK : KOK p l e R s m args below meth c Q D G A ρ0 nL Pe (pc + 3) K) : KOK p l e R s m args below meth c Q D G A ρ0 nL Pe pc (op_newa B (fun N => cQ ci (repA (vW 0) N)) call K) := by
  intro E n z L S M rs h he ρ H locs ls st h0 hE hM hS hL hs
  rcases S with _ | ⟨a, S⟩
  · cases h
  obtain ⟨u, st, rfl, hu, hs'⟩ := czs_cons hs
  rcases a with N | a | x | o | i | w | k | k
  · obtain ⟨hN, h1, h3, h4⟩ := newa_of C h
    have hu' : u = .int (nI N) := hu
    subst hu'
    obtain ⟨ws, w1, w2, w3, w4, w5, w6⟩ := hM
    refine va_newq (ws := ws) C.1 C.2.1 C.2.2.2.1 (C.2.2.2.2.1 _ hcl) hov C.2.2.2.2.2.1 w5 w6 hS C.2.2.2.2.2.2 (N' := N) (nneg hN) (nI_clamp (by omega)) (by omega) (by omega) (by omega) hdg (fun q cA H1 r0 r1 r2 r3 => ?_)
    refine W.widen (k := z + N + 1) (n := z + N + 1) (by omega) (by omega) ?_
    have hp : ρ <+: ρ ++ [q] := List.prefix_append _ _
    exact hK E _ _ L _ _ rs h4 he (ρ ++ [q]) H1 locs ls _ (h0.trans hp) hE (mem_new w1 w2 h1 w4 r1 r2 (Or.inr ⟨cA, fun _ => none, r, congrArg (fun n => Sum.inl (cA, n, Sum.inr (Sum.inr (Sum.inr (Sum.inr fun _ => none))))) (rep_len (vW 0) N).symm, hc, r0.2 0 _ rfl, by show (repA _ N).length ≤ _; rw [rep_len]; exact hN, fun j hj => by have hj' : j < (repA (vW 0) N).length := hj; rw [rep_len] at hj'; show cz G _ (nth (repA (vW 0) N) j) _; rw [rep_nth _ _ _ hj']; exact Or.inl ⟨rfl, rfl⟩⟩)) r3 (locR_mono hp hL) ⟨⟨q, by rw [List.getElem?_append_right (by omega), w2]; simp, rfl⟩, czs_mono hp hs'⟩
  all_goals cases h
theorem pcpy_get (p q sp dp : Nat) : ∀ N k, pget (pcpy p q sp dp N) k = if dp ≤ k ∧ k < dp + N then pget p (sp + (k - dp)) else pget q k := by
  intro N
  induction N with
  | zero => intro k; rw [if_neg (by omega)]; rfl
  | succ N ih =>
    intro k
    show pget (pset (pcpy p q sp dp N) (dp + N) (pget p (sp + N))) k = _
    rw [pget_pset]
    by_cases hk : k = dp + N
    · rw [if_pos hk, if_pos (by omega)]
      have e : k - dp = N := by omega
      rw [e]
      unfold pget
      exact Nat.mod_mod _ _
    · rw [if_neg hk, ih]
      by_cases hk2 : dp ≤ k ∧ k < dp + N
      · rw [if_pos hk2, if_pos (by omega)]
      · rw [if_neg hk2, if_neg (by omega)]
theorem ok_copy (C : Cx cc own Ts p l s m args meth c D G A nL) {call : Call} {index : Nat} (hlink : (Cond.methodLink own index arraycopyName).before args s = true) (hnat : (Cond.native arraycopyName).before args s = true) (hstat : (Cond.static arraycopyName).before args s = true) (hini : (Cond.initialized "java/lang/System").before args s = true) (hfr : 1 ≤ R.frames) (hlo : 8 + (nativeFrameWords "java/lang/System" "arraycopy" 5 + 11) ≤ R.locals) (hdg : decode cc pc = .ok (.invokestatic index, 3)) (hK : KOK p l e R s m args below meth c Q D G A ρ0 nL Pe (pc + 3) K) : KOK p l e R s m args below meth c Q D G A ρ0 nL Pe pc (op_copy call K) := by
  intro E n z L S M rs h he ρ H locs ls st h0 hE hM hS hL hs
  unfold op_copy at h
  split at h
  · rename_i N dp b sp a S'
    obtain ⟨v5, st5, rfl, hv5, hs5⟩ := czs_cons hs
    obtain ⟨v4, st4, rfl, hv4, hs4⟩ := czs_cons hs5
    obtain ⟨v3, st3, rfl, hv3, hs3⟩ := czs_cons hs4
    obtain ⟨v2, st2, rfl, hv2, hs2⟩ := czs_cons hs3
    obtain ⟨v1, st1, rfl, hv1, hs1⟩ := czs_cons hs2
    obtain ⟨qb, hqb, rfl⟩ := hv3
    obtain ⟨qa, hqa, rfl⟩ := hv1
    have e5 : v5 = .int (nI N) := hv5
    have e4 : v4 = .int (nI dp) := hv4
    have e2 : v2 = .int (nI sp) := hv2
    subst e5; subst e4; subst e2
    obtain ⟨ws, e0, g1, g2, g3, g4, g5, g6⟩ := mem_at hM hqb
    obtain ⟨ea, f1, f2⟩ := g6 a qa hqa
    rcases hca : tget 9 M a with o | u | o | o
    · simp only [hca] at h; cases h
    · rcases hcb : tget 9 M b with o | w | o | o
      · simp only [hca, hcb] at h; cases h
      · rw [hcb] at g2
        rw [hca] at f2
        simp only [hca, hcb] at h
        obtain ⟨h1, h⟩ := gd_some h
        obtain ⟨h2, h⟩ := gd_some h
        obtain ⟨h3, h⟩ := gd_some h
        obtain ⟨h4, h⟩ := gd_some h
        split at h
        · rename_i hua hwb
          obtain ⟨h9, h⟩ := gd_some h
          obtain ⟨h5, h⟩ := gd_some h
          rw [fN_eq] at h
          obtain ⟨cA, f, rfl, hty, hN, ht2, hf⟩ := g2
          obtain ⟨cB, g, rfl, hty2, hN2, ht22, hg⟩ := f2
          rw [Nat.eq_of_beq_eq_true h1] at hty2
          rw [Nat.eq_of_beq_eq_true h2] at hty
          have h3 := Nat.le_of_ble_eq_true h3
          have h4 := Nat.le_of_ble_eq_true h4
          have h5 := Nat.le_of_ble_eq_true h5
          have c1 : (nI sp).toNatClampNeg = sp := nI_clamp (by omega)
          have c2 : (nI dp).toNatClampNeg = dp := nI_clamp (by omega)
          have c3 : (nI N).toNatClampNeg = N := nI_clamp (by omega)
          refine va_copyi C.1 C.2.1 (C.2.2.1.trans hL.1.symm) C.2.2.2.1 hlink hnat hstat hini (K2 C.2.2.2.2.2.1 hty2 hty) g3 g4 hS a b 0 1 f1 g1 rfl rfl rfl (nI_pos (by omega)) (nI_pos (by omega)) (nI_pos (by omega)) (by rw [c1, c3]; exact h3) (by rw [c2, c3]; exact h4) (fun _ _ => rfl) hfr (by have := czs_cat hs1; have := Nat.le_of_ble_eq_true h9; omega) hdg (fun H1 locs1 r1 r2 r3 => ?_)
          rw [c1, c2, c3] at r1 r2
          refine hK E n z L _ _ rs h he ρ H1 locs1 ls _ h0 hE (g5 H1 _ _ r1 r2 ⟨cA, _, rfl, hty, hN, by show 0 ≤ 2; omega, fun k hk => ?_⟩) r3 hL hs1
          show cz G ρ (vI (pget (pcpy u.2.2.1 w.2.2.1 sp dp N) k)) (.int (va_cpy g f sp dp N k))
          rw [pcpy_get]
          unfold va_cpy
          by_cases hk2 : dp ≤ k ∧ k < dp + N
          · rw [if_pos hk2, if_pos hk2]
            have := hg (sp + (k - dp)) (by omega)
            rw [hua] at this
            exact this
          · rw [if_neg hk2, if_neg hk2]
            have := hf k hk
            rw [hwb] at this
            exact this
        · cases h
      · simp only [hca, hcb] at h; cases h
      · simp only [hca, hcb] at h; cases h
    · simp only [hca] at h; cases h
    · simp only [hca] at h; cases h
  · cases h
theorem ok_lcmp (C : Cx cc own Ts p l s m args meth c D G A nL) {call : Call} (hdg : decode cc pc = .ok (.lcmp, 1)) (hK : KOK p l e R s m args below meth c Q D G A ρ0 nL Pe (pc + 1) K) : KOK p l e R s m args below meth c Q D G A ρ0 nL Pe pc (op_lcmp call K) := by
  intro E n z L S M rs h he ρ H locs ls st h0 hE hM hS hL hs
  rcases S with _ | ⟨b, _ | ⟨a, S⟩⟩
  · cases h
  · rcases b with x | b | x | o | j | w | k | k <;> cases h
  obtain ⟨v, st1, rfl, hv, hs1⟩ := czs_cons hs
  obtain ⟨u, st, rfl, hu, hs'⟩ := czs_cons hs1
  rcases b with y | y | y | o | i | w | k | k
  · rcases a with x | a | x | o | i | w | k | k <;> cases h
  · rcases a with x | a | x | o | i | w | k | k <;> cases h
  · have hv' : v = .long (lN y) := hv
    subst hv'
    rcases a with x | a | x | o | i | w | k | k
    · cases h
    · cases h
    · have h' : fN (toN (lg_cmp (lN x) (lN y))) (fun r => K E n z L (vI r :: S) M) = some rs := h
      rw [fN_eq] at h'
      have hu' : u = .long (lN x) := hu
      subst hu'
      exact W.lcmp C.1 C.2.1 hdg (hK E n z L _ M rs h' he ρ H locs ls _ h0 hE hM hS hL ⟨(by show Value.int _ = .int (nI (toN _)); rw [nI_toN]), hs'⟩)
    · cases h
    · have h' : fN (y % 4294967296) (fun w => gd (Nat.ble (i + 1) 16) (gd (Nat.beq (toNL (nI w).toInt64) y) (fork3 E i (bi w) (fun E => K E n z L (vI 4294967295 :: S) M) (fun E => K E n z L (vI 0 :: S) M) (fun E => K E n z L (vI 1 :: S) M)))) = some rs := h
      rw [fN_eq] at h'
      obtain ⟨h16, h'⟩ := gd_some h'
      obtain ⟨h1, h2⟩ := gd_some h'
      have h17 := Nat.le_of_ble_eq_true h16
      have hu' : u = .long (G.1 i).toInt64 := by
        have hu0 : u = .long (G.1 (i % 16) + nI (i / 16)).toInt64 := hu
        rw [show i % 16 = i by omega, show i / 16 = 0 by omega] at hu0
        have e0 : G.1 i + nI 0 = G.1 i := by show G.1 i + 0 = G.1 i; simp
        rw [e0] at hu0
        exact hu0
      subst hu'
      have hy : lN y = (nI (y % 4294967296)).toInt64 := by
        rw [← Nat.eq_of_beq_eq_true h1, lN_toN]
        rw [Nat.eq_of_beq_eq_true h1]
      obtain ⟨f1, f2, f3⟩ := fork3_ok h2 hE
      rw [hy]
      refine W.lcmp C.1 C.2.1 hdg ?_
      rw [lg_cmp_i2l]
      have fin : ∀ (r : Nat) (t : tak G rs (fun E => K E n z L (vI r :: S) M)), W p l e R s m args below meth c H locs z z Q (F0 m (pc + 1) ls (.int (nI r) :: st)) := by
        intro r t
        obtain ⟨E', rs', k1, k2, k3⟩ := t
        exact hK E' n z L _ M rs' k1 (fun q hq => he q (k2 q hq)) ρ H locs ls _ h0 k3 hM hS hL ⟨rfl, hs'⟩
      have hx : G.1 i = nI (toN (G.1 i)) := (nI_toN _).symm
      by_cases q1 : nI (y % 4294967296) < G.1 i
      · rw [if_pos q1]
        exact fin 1 (f3 (by rw [hx] at q1; exact (nI_lt_iff _ _).mp q1))
      · rw [if_neg q1]
        by_cases q2 : G.1 i = nI (y % 4294967296)
        · rw [if_pos q2]
          exact fin 0 (f2 (bi_bi q2))
        · rw [if_neg q2]
          have q3 : G.1 i < nI (y % 4294967296) := by
            rcases i32_tri (G.1 i) (nI (y % 4294967296)) with t | t | t
            · exact t
            · exact absurd t q2
            · exact absurd t q1
          exact fin 4294967295 (f1 (by rw [hx] at q3; exact (nI_lt_iff _ _).mp q3))
    all_goals cases h
  · rcases a with x | a | x | o | i | w | k | k <;> cases h
  · rcases a with x | a | x | o | i9 | w | k | k
    · cases h
    · cases h
    · cases h
    · cases h
    · obtain ⟨h1, h2⟩ := gd_some (show gd (Nat.beq i9 i) (K E n z L (vI 0 :: S) M) = some rs from h)
      have e9 := Nat.eq_of_beq_eq_true h1
      subst e9
      have hu' : u = .long (G.1 (i9 % 16) + nI (i9 / 16)).toInt64 := hu
      have hv' : v = .long (G.1 (i9 % 16) + nI (i9 / 16)).toInt64 := hv
      subst hu'; subst hv'
      refine W.lcmp C.1 C.2.1 hdg ?_
      rw [lg_cmp_i2l, if_neg (Int32.lt_irrefl), if_pos rfl]
      exact hK E n z L _ M rs h2 he ρ H locs ls _ h0 hE hM hS hL ⟨rfl, hs'⟩
    · cases h
    · cases h
    · cases h
  all_goals (rcases a with x | a | x | o | i | w | k | k <;> cases h)
theorem u64_n (x : UInt64) : UInt64.ofNat x.toNat = x := by simp
theorem u32_n (x : UInt32) : UInt32.ofNat x.toNat = x := by simp
theorem n64_of {r : UInt64} (h : Nat.ble ((r &&& 0x7fffffffffffffff).toNat) 9218868437227405312 = true) : vf_n64 r := by
  show r &&& 0x7fffffffffffffff ≤ 0x7ff0000000000000
  rw [UInt64.le_iff_toNat_le]
  exact Nat.le_of_ble_eq_true h
theorem n32_of {r : UInt32} (h : Nat.ble ((r &&& 0x7fffffff).toNat) 2139095040 = true) : vf_n32 r := by
  show r &&& 0x7fffffff ≤ 0x7f800000
  rw [UInt32.le_iff_toNat_le]
  exact Nat.le_of_ble_eq_true h
theorem ok_i2d (C : Cx cc own Ts p l s m args meth c D G A nL) {call : Call} (hdg : decode cc pc = .ok (.i2d, 1)) (hK : KOK p l e R s m args below meth c Q D G A ρ0 nL Pe (pc + 1) K) : KOK p l e R s m args below meth c Q D G A ρ0 nL Pe pc (op_i2d call K) := by
  intro E n z L S M rs h he ρ H locs ls st h0 hE hM hS hL hs
  unfold op_i2d at h
  split at h
  · obtain ⟨u, st, rfl, hu, hs'⟩ := czs_cons hs
    have hu' : u = .int (nI _) := hu
    subst hu'
    exact lv_i2d C.1 C.2.1 hdg (hK E n z L _ M rs h he ρ H locs ls _ h0 hE hM hS hL ⟨by show Value.double _ = .double (UInt64.ofNat _); rw [u64_n], hs'⟩)
  · cases h
theorem ok_i2f (C : Cx cc own Ts p l s m args meth c D G A nL) {call : Call} (hdg : decode cc pc = .ok (.i2f, 1)) (hK : KOK p l e R s m args below meth c Q D G A ρ0 nL Pe (pc + 1) K) : KOK p l e R s m args below meth c Q D G A ρ0 nL Pe pc (op_i2f call K) := by
  intro E n z L S M rs h he ρ H locs ls st h0 hE hM hS hL hs
  unfold op_i2f at h
  split at h
  · obtain ⟨u, st, rfl, hu, hs'⟩ := czs_cons hs
    have hu' : u = .int (nI _) := hu
    subst hu'
    exact lv_i2f C.1 C.2.1 hdg (hK E n z L _ M rs h he ρ H locs ls _ h0 hE hM hS hL ⟨by show Value.float _ = .float (UInt32.ofNat _); rw [u32_n], hs'⟩)
  · cases h
theorem ok_f2d (C : Cx cc own Ts p l s m args meth c D G A nL) {call : Call} (hdg : decode cc pc = .ok (.f2d, 1)) (hK : KOK p l e R s m args below meth c Q D G A ρ0 nL Pe (pc + 1) K) : KOK p l e R s m args below meth c Q D G A ρ0 nL Pe pc (op_f2d call K) := by
  intro E n z L S M rs h he ρ H locs ls st h0 hE hM hS hL hs
  unfold op_f2d at h
  split at h
  · obtain ⟨u, st, rfl, hu, hs'⟩ := czs_cons hs
    obtain ⟨h1, h2⟩ := gd_some h
    have hu' : u = .float (UInt32.ofNat _) := hu
    subst hu'
    exact lv_f2d C.1 C.2.1 hdg (n64_of h1) (hK E n z L _ M rs h2 he ρ H locs ls _ h0 hE hM hS hL ⟨by show Value.double _ = .double (UInt64.ofNat _); rw [u64_n], hs'⟩)
  · cases h
theorem ok_ddiv (C : Cx cc own Ts p l s m args meth c D G A nL) {call : Call} (hdg : decode cc pc = .ok (.ddiv, 1)) (hK : KOK p l e R s m args below meth c Q D G A ρ0 nL Pe (pc + 1) K) : KOK p l e R s m args below meth c Q D G A ρ0 nL Pe pc (op_ddiv call K) := by
  intro E n z L S M rs h he ρ H locs ls st h0 hE hM hS hL hs
  unfold op_ddiv at h
  split at h
  · obtain ⟨v, st1, rfl, hv, hs1⟩ := czs_cons hs
    obtain ⟨u, st, rfl, hu, hs'⟩ := czs_cons hs1
    obtain ⟨h1, h2⟩ := gd_some h
    have hu' : u = .double (UInt64.ofNat _) := hu
    have hv' : v = .double (UInt64.ofNat _) := hv
    subst hu'; subst hv'
    exact lv_ddiv C.1 C.2.1 hdg (n64_of h1) (hK E n z L _ M rs h2 he ρ H locs ls _ h0 hE hM hS hL ⟨by show Value.double _ = .double (UInt64.ofNat _); rw [u64_n], hs'⟩)
  · cases h
theorem ok_fdiv (C : Cx cc own Ts p l s m args meth c D G A nL) {call : Call} (hdg : decode cc pc = .ok (.fdiv, 1)) (hK : KOK p l e R s m args below meth c Q D G A ρ0 nL Pe (pc + 1) K) : KOK p l e R s m args below meth c Q D G A ρ0 nL Pe pc (op_fdiv call K) := by
  intro E n z L S M rs h he ρ H locs ls st h0 hE hM hS hL hs
  unfold op_fdiv at h
  split at h
  · obtain ⟨v, st1, rfl, hv, hs1⟩ := czs_cons hs
    obtain ⟨u, st, rfl, hu, hs'⟩ := czs_cons hs1
    obtain ⟨h1, h2⟩ := gd_some h
    have hu' : u = .float (UInt32.ofNat _) := hu
    have hv' : v = .float (UInt32.ofNat _) := hv
    subst hu'; subst hv'
    exact lv_fdiv C.1 C.2.1 hdg (n32_of h1) (hK E n z L _ M rs h2 he ρ H locs ls _ h0 hE hM hS hL ⟨by show Value.float _ = .float (UInt32.ofNat _); rw [u32_n], hs'⟩)
  · cases h
theorem ok_dcmp (C : Cx cc own Ts p l s m args meth c D G A nL) {call : Call} {o : CmpOp} (hdg : decode cc pc = .ok (.dcmp o, 1)) (hK : KOK p l e R s m args below meth c Q D G A ρ0 nL Pe (pc + 1) K) : KOK p l e R s m args below meth c Q D G A ρ0 nL Pe pc (op_dcmp o call K) := by
  intro E n z L S M rs h he ρ H locs ls st h0 hE hM hS hL hs
  unfold op_dcmp at h
  split at h
  · obtain ⟨v, st1, rfl, hv, hs1⟩ := czs_cons hs
    obtain ⟨u, st, rfl, hu, hs'⟩ := czs_cons hs1
    rw [fN_eq] at h
    have hu' : u = .double (UInt64.ofNat _) := hu
    have hv' : v = .double (UInt64.ofNat _) := hv
    subst hu'; subst hv'
    exact lv_dcmp C.1 C.2.1 hdg (hK E n z L _ M rs h he ρ H locs ls _ h0 hE hM hS hL ⟨by show Value.int _ = .int (nI (toN _)); rw [nI_toN], hs'⟩)
  · cases h
end OPN
end
section
/-! the facts that every method's start has; contracts; calls -/
def nTx : Nat := 27
def lenTx : List Nat := [211, 24, 14, 30, 29, 11, 22, 36, 24, 12, 14, 26, 29, 23, 12, 14, 4, 4, 4, 7, 4, 4, 5, 3, 4, 6, 6]
def bytTx : List (List Int32) := [[102, 97, 105, 114, 32, 53, 59, 102, 111, 103, 32, 50, 32, 55, 32, 52, 59, 101, 99, 104, 111, 32, 121, 111, 100, 101, 108, 32, 51, 32, 54, 32, 57, 32, 53, 59, 101, 99, 104, 111, 32, 109, 117, 109, 98, 108, 101, 32, 56, 32, 50, 32, 52, 32, 49, 59, 101, 99, 104, 111, 32, 98, 101, 108, 108, 32, 53, 32, 57, 32, 49, 52, 32, 56, 59, 101, 99, 104, 111, 32, 104, 111, 114, 110, 32, 52, 32, 53, 32, 54, 32, 51, 59, 118, 97, 108, 108, 101, 121, 32, 103, 114, 101, 101, 110, 32, 52, 32, 49, 32, 49, 48, 32, 54, 48, 59, 118, 97, 108, 108, 101, 121, 32, 100, 101, 101, 112, 32, 56, 32, 50, 32, 56, 32, 53, 59, 118, 97, 108, 108, 101, 121, 32, 111, 108, 100, 32, 50, 32, 49, 32, 49, 53, 32, 51, 48, 59, 116, 101, 115, 116, 101, 100, 32, 103, 114, 101, 101, 110, 32, 121, 111, 100, 101, 108, 59, 116, 101, 115, 116, 101, 100, 32, 100, 101, 101, 112, 32, 109, 117, 109, 98, 108, 101, 59, 116, 101, 115, 116, 101, 100, 32, 111, 108, 100, 32, 104, 111, 114, 110, 59], [116, 104, 101, 32, 105, 110, 112, 117, 116, 32, 98, 117, 102, 102, 101, 114, 32, 105, 115, 32, 102, 117, 108, 108], [110, 111, 32, 115, 117, 99, 104, 32, 108, 101, 110, 103, 116, 104], [116, 104, 101, 32, 99, 111, 110, 102, 105, 103, 117, 114, 97, 116, 105, 111, 110, 32, 104, 97, 115, 32, 97, 110, 32, 101, 114, 114, 111, 114], [116, 104, 101, 32, 99, 111, 109, 109, 97, 110, 100, 32, 116, 101, 120, 116, 32, 104, 97, 115, 32, 97, 110, 32, 101, 114, 114, 111, 114], [110, 111, 32, 115, 117, 99, 104, 32, 100, 97, 121], [110, 111, 32, 115, 117, 99, 104, 32, 110, 117, 109, 98, 101, 114, 32, 111, 102, 32, 100, 97, 121, 115], [116, 104, 101, 32, 101, 99, 104, 111, 32, 105, 115, 32, 116, 101, 115, 116, 101, 100, 32, 111, 114, 32, 104, 97, 115, 32, 97, 32, 99, 111, 110, 116, 114, 97, 99, 116], [116, 104, 101, 32, 101, 99, 104, 111, 32, 104, 97, 115, 32, 110, 111, 32, 99, 111, 110, 116, 114, 97, 99, 116], [110, 111, 32, 115, 117, 99, 104, 32, 119, 97, 103, 101], [110, 111, 32, 115, 117, 99, 104, 32, 97, 109, 111, 117, 110, 116], [116, 104, 101, 32, 101, 99, 104, 111, 32, 99, 97, 110, 110, 111, 116, 32, 98, 101, 32, 116, 114, 97, 105, 110, 101, 100], [116, 104, 101, 114, 101, 32, 105, 115, 32, 110, 111, 32, 111, 112, 101, 114, 97, 116, 105, 111, 110, 32, 116, 111, 32, 117, 110, 100, 111], [116, 104, 101, 114, 101, 32, 105, 115, 32, 110, 111, 32, 115, 97, 118, 101, 100, 32, 115, 116, 97, 116, 101], [110, 111, 32, 115, 117, 99, 104, 32, 101, 99, 104, 111], [110, 111, 32, 115, 117, 99, 104, 32, 118, 97, 108, 108, 101, 121], [112, 97, 115, 115], [102, 97, 105, 114], [116, 101, 115, 116], [100, 105, 115, 109, 105, 115, 115], [119, 97, 103, 101], [102, 117, 110, 100], [116, 114, 97, 105, 110], [102, 111, 103], [101, 99, 104, 111], [118, 97, 108, 108, 101, 121], [116, 101, 115, 116, 101, 100]]
def natTx : List (List Nat) := [[102, 97, 105, 114, 32, 53, 59, 102, 111, 103, 32, 50, 32, 55, 32, 52, 59, 101, 99, 104, 111, 32, 121, 111, 100, 101, 108, 32, 51, 32, 54, 32, 57, 32, 53, 59, 101, 99, 104, 111, 32, 109, 117, 109, 98, 108, 101, 32, 56, 32, 50, 32, 52, 32, 49, 59, 101, 99, 104, 111, 32, 98, 101, 108, 108, 32, 53, 32, 57, 32, 49, 52, 32, 56, 59, 101, 99, 104, 111, 32, 104, 111, 114, 110, 32, 52, 32, 53, 32, 54, 32, 51, 59, 118, 97, 108, 108, 101, 121, 32, 103, 114, 101, 101, 110, 32, 52, 32, 49, 32, 49, 48, 32, 54, 48, 59, 118, 97, 108, 108, 101, 121, 32, 100, 101, 101, 112, 32, 56, 32, 50, 32, 56, 32, 53, 59, 118, 97, 108, 108, 101, 121, 32, 111, 108, 100, 32, 50, 32, 49, 32, 49, 53, 32, 51, 48, 59, 116, 101, 115, 116, 101, 100, 32, 103, 114, 101, 101, 110, 32, 121, 111, 100, 101, 108, 59, 116, 101, 115, 116, 101, 100, 32, 100, 101, 101, 112, 32, 109, 117, 109, 98, 108, 101, 59, 116, 101, 115, 116, 101, 100, 32, 111, 108, 100, 32, 104, 111, 114, 110, 59], [116, 104, 101, 32, 105, 110, 112, 117, 116, 32, 98, 117, 102, 102, 101, 114, 32, 105, 115, 32, 102, 117, 108, 108], [110, 111, 32, 115, 117, 99, 104, 32, 108, 101, 110, 103, 116, 104], [116, 104, 101, 32, 99, 111, 110, 102, 105, 103, 117, 114, 97, 116, 105, 111, 110, 32, 104, 97, 115, 32, 97, 110, 32, 101, 114, 114, 111, 114], [116, 104, 101, 32, 99, 111, 109, 109, 97, 110, 100, 32, 116, 101, 120, 116, 32, 104, 97, 115, 32, 97, 110, 32, 101, 114, 114, 111, 114], [110, 111, 32, 115, 117, 99, 104, 32, 100, 97, 121], [110, 111, 32, 115, 117, 99, 104, 32, 110, 117, 109, 98, 101, 114, 32, 111, 102, 32, 100, 97, 121, 115], [116, 104, 101, 32, 101, 99, 104, 111, 32, 105, 115, 32, 116, 101, 115, 116, 101, 100, 32, 111, 114, 32, 104, 97, 115, 32, 97, 32, 99, 111, 110, 116, 114, 97, 99, 116], [116, 104, 101, 32, 101, 99, 104, 111, 32, 104, 97, 115, 32, 110, 111, 32, 99, 111, 110, 116, 114, 97, 99, 116], [110, 111, 32, 115, 117, 99, 104, 32, 119, 97, 103, 101], [110, 111, 32, 115, 117, 99, 104, 32, 97, 109, 111, 117, 110, 116], [116, 104, 101, 32, 101, 99, 104, 111, 32, 99, 97, 110, 110, 111, 116, 32, 98, 101, 32, 116, 114, 97, 105, 110, 101, 100], [116, 104, 101, 114, 101, 32, 105, 115, 32, 110, 111, 32, 111, 112, 101, 114, 97, 116, 105, 111, 110, 32, 116, 111, 32, 117, 110, 100, 111], [116, 104, 101, 114, 101, 32, 105, 115, 32, 110, 111, 32, 115, 97, 118, 101, 100, 32, 115, 116, 97, 116, 101], [110, 111, 32, 115, 117, 99, 104, 32, 101, 99, 104, 111], [110, 111, 32, 115, 117, 99, 104, 32, 118, 97, 108, 108, 101, 121], [112, 97, 115, 115], [102, 97, 105, 114], [116, 101, 115, 116], [100, 105, 115, 109, 105, 115, 115], [119, 97, 103, 101], [102, 117, 110, 100], [116, 114, 97, 105, 110], [102, 111, 103], [101, 99, 104, 111], [118, 97, 108, 108, 101, 121], [116, 101, 115, 116, 101, 100]]
def refTx : List (String × Nat × String × Nat) := [("EchoFair", 89, "fair 5;fog 2 7 4;echo yodel 3 6 9 5;echo mumble 8 2 4 1;echo bell 5 9 14 8;echo horn 4 5 6 3;valley green 4 1 10 60;valley deep 8 2 8 5;valley old 2 1 15 30;tested green yodel;tested deep mumble;tested old horn;", 0), ("EchoFair", 115, "the input buffer is full", 1), ("EchoFair", 125, "no such length", 2), ("EchoFair", 131, "the configuration has an error", 3), ("EchoFair", 139, "the command text has an error", 4), ("EchoFair", 162, "no such day", 5), ("EchoFair", 335, "no such number of days", 6), ("EchoFair", 337, "the echo is tested or has a contract", 7), ("EchoFair", 342, "the echo has no contract", 8), ("EchoFair", 347, "no such wage", 9), ("EchoFair", 349, "no such amount", 10), ("EchoFair", 357, "the echo cannot be trained", 11), ("EchoFair", 363, "there is no operation to undo", 12), ("EchoFair", 372, "there is no saved state", 13), ("EchoFair", 384, "no such echo", 14), ("EchoFair", 387, "no such valley", 15), ("EchoFair$Commands", 56, "pass", 16), ("EchoFair$Commands", 62, "fair", 17), ("EchoFair$Commands", 64, "test", 18), ("EchoFair$Commands", 66, "dismiss", 19), ("EchoFair$Commands", 68, "wage", 20), ("EchoFair$Commands", 70, "fund", 21), ("EchoFair$Commands", 72, "train", 22), ("EchoFair$Configuration", 63, "fair", 17), ("EchoFair$Configuration", 87, "fog", 23), ("EchoFair$Configuration", 96, "echo", 24), ("EchoFair$Configuration", 104, "valley", 25), ("EchoFair$Configuration", 109, "tested", 26), ("EchoFairModel", 51, "fair 5;fog 2 7 4;echo yodel 3 6 9 5;echo mumble 8 2 4 1;echo bell 5 9 14 8;echo horn 4 5 6 3;valley green 4 1 10 60;valley deep 8 2 8 5;valley old 2 1 15 30;tested green yodel;tested deep mumble;tested old horn;", 0), ("EchoFairModel", 277, "fog", 23), ("EchoFairModel", 299, "echo", 24), ("EchoFairModel", 304, "valley", 25), ("EchoFairModel", 309, "tested", 26), ("EchoFairModel", 317, "fair", 17), ("EchoFairModel", 331, "dismiss", 19), ("EchoFairModel", 333, "wage", 20), ("EchoFairModel", 335, "fund", 21), ("EchoFairModel", 337, "train", 22), ("EchoFairModel", 339, "pass", 16), ("EchoFairModel", 341, "test", 18)]
def nestW : List (String × Nat × MethodName × String) := [("EchoFair", 23, ⟨"EchoFair$Season", "<init>", "()V"⟩, "EchoFair"), ("EchoFair$World", 23, ⟨"EchoFair$Echo", "<init>", "()V"⟩, "EchoFair"), ("EchoFair$World", 24, ⟨"EchoFair$Valley", "<init>", "()V"⟩, "EchoFair"), ("EchoFair", 53, ⟨"EchoFair$Matching", "<init>", "()V"⟩, "EchoFair")]
def castW : List (String × String) := [("java/lang/IllegalStateException", "java/lang/IllegalStateException"), ("java/lang/IllegalArgumentException", "java/lang/IllegalArgumentException"), ("java/lang/IndexOutOfBoundsException", "java/lang/IndexOutOfBoundsException")]
def declW : List MethodName := [⟨"java/lang/RuntimeException", "<init>", "()V"⟩, ⟨"java/lang/RuntimeException", "<init>", "(Ljava/lang/String;)V"⟩, ⟨"java/lang/Exception", "<init>", "()V"⟩, ⟨"java/lang/Exception", "<init>", "(Ljava/lang/String;)V"⟩, ⟨"java/lang/Throwable", "<init>", "()V"⟩, ⟨"java/lang/Throwable", "<init>", "(Ljava/lang/String;)V"⟩]
def aoW : List String := ["EchoFair$Echo", "EchoFair$Valley", "EchoFair$World"]
def ncW : List (String × String) := [("java/lang/IllegalArgumentException", "java/lang/IndexOutOfBoundsException"), ("java/lang/IllegalStateException", "java/lang/IndexOutOfBoundsException")]
def excN (x : Nat) : String := match x with | 0 => "java/lang/IllegalStateException" | 1 => "java/lang/IllegalArgumentException" | _ => "java/lang/IndexOutOfBoundsException"
def Fx (G : Gam) (A : Nat → Prop) (U : State) (H : Heap) : Prop :=
  vk_S nTx lenTx bytTx G.2.1 (fun i => G.2.1 (1000 + i)) A U H ∧ (∀ r ∈ refTx, vk_R r.1 r.2.1 r.2.2.1 (G.2.1 r.2.2.2) U) ∧ vx_Zq Bundle.tN "UNASSIGNED_STACK" Bundle.steD A U H ∧ vx_Zq Bundle.tN "SUPPRESSED_SENTINEL" Bundle.listD A U H ∧
  va_Z "java/lang/String" "COMPACT_STRINGS" "Z" (.int 1) A U H ∧ va_Zq "jdk/internal/util/Preconditions" "SIOOBE_FORMATTER" "Ljava/util/function/BiFunction;" A U H ∧
  (∀ w ∈ nestW, va_Nw (.methodLinkNest w.1 w.2.1 w.2.2.1 w.2.2.2) U) ∧ (∀ w ∈ castW, va_Nw (.castable w.1 w.2) U) ∧ (∀ w ∈ declW, va_Nw (.declares w) U) ∧ (∀ w ∈ aoW, va_AO w U) ∧ (∀ w ∈ ncW, va_Nc w.1 w.2 U)
theorem Fx.to {G : Gam} {A : Nat → Prop} {u U : State} {H1 : Heap} (hW : u.WarmedH U.vm) (hq : ∀ a : Nat, a < u.heap.size → ¬ A a → H1[a]? = u.heap[a]?) (h : Fx G A u u.heap) : Fx G A U H1 := by
  obtain ⟨h1, h2, h3, h4, h5, h6, h7, h8, h9, h10, h11⟩ := h
  have hv := hW.alike
  exact ⟨(h1.kept hq).moved hv, fun r hr => vk_R.warm hW (h2 r hr), (h3.kept hq).moved hv, (h4.kept hq).moved hv, (h5.kept hq).moved hv, (h6.kept hq).moved hv, fun w hw => va_Nw.warmM hW (h7 w hw), fun w hw => va_Nw.warmC hW (h8 w hw), fun w hw => va_Nw.warmD hW (h9 w hw), fun w hw => (h10 w hw).moved hv, fun w hw => (h11 w hw).moved hv⟩
def PcOf (D : va_G) (G : Gam) (A : Nat → Prop) (ρ : List Nat) (n : Nat) (M : Mem) (vals : List Value) : Array Value → State → Prop := va_Pc vals (fun U => Fx G A U U.heap ∧ va_K D vwCl [] U ∧ (∀ q, U.heap.size ≤ q → A q) ∧ memR D U G A ρ n M U.heap)
def valR (G : Gam) (ρ : List Nat) (r : Res) (v : Option Value) : Prop := (r.1.1 = 0 ∧ ∃ x, v = some x ∧ cz G ρ r.2.2.1 x) ∨ (r.1.1 = 1 ∧ v = none)
def QcOf (D : va_G) (G : Gam) (A : Nat → Prop) (ρ0 : List Nat) (rs : List Res) : Array Value → State → Outcome → State → Prop := fun _ st o t =>
  (∃ r ∈ rs, ∃ v ρ, o = .returned v ∧ valR G ρ r v ∧ ρ0 <+: ρ ∧ envR G r.2.1 ∧ memR D t G A ρ r.2.2.2.2.2.2.1 r.2.2.2.2.2.1 t.heap) ∧ va_F A st t
def XCOf (D : va_G) (G : Gam) (A : Nat → Prop) (ρ0 : List Nat) (rs : List Res) : String → State → State → Prop := fun E st t =>
  (∃ r ∈ rs, r.1.1 = 2 ∧ E = excN r.1.2 ∧ ∃ ρ, ρ0 <+: ρ ∧ envR G r.2.1 ∧ memR D t G A ρ r.2.2.2.2.2.2.1 r.2.2.2.2.2.1 t.heap) ∧ va_F A st t
theorem Pc_blind {D : va_G} {G : Gam} {A : Nat → Prop} {ρ : List Nat} {n : Nat} {M : Mem} {vals : List Value} : FrameBlind (PcOf D G A ρ n M vals) := by
  intro a U g mk h
  obtain ⟨h1, h2, h3, h4, h5⟩ := h
  refine ⟨h1, Fx.to (u := U) (U := U.calling g mk a) (State.WarmedH.refl U) (fun _ _ _ => rfl) h2, va_K.moved (u := U) (U := U.calling g mk a) (Vm.Alike.refl U.vm) h3, h4, memR_moved (u := U) (U := U.calling g mk a) (Vm.Alike.refl U.vm) h5⟩
/-- a method's contract: from every start that the memory M describes it comes to one of the ends rs -/
def MOK (l : Launch) (D : va_G) (G : Gam) (A : Nat → Prop) (yn : MethodName) (ws : List Cond) (rm : Room) (E : Env9) (n : Nat) (as : List AV) (M : Mem) (rs : List Res) : Prop :=
  ∀ (ρ : List Nat) (vals : List Value), envR G E → czs G ρ as vals → vx_Met l yn ws rm (PcOf D G A ρ n M vals) (QcOf D G A ρ rs) (XCOf D G A ρ rs) rm.cells rm.slots A
abbrev Inf : Type := Nat → MethodName × List Cond × Room
def CallOK (l : Launch) (D : va_G) (G : Gam) (A : Nat → Prop) (inf : Inf) (call : Call) : Prop := ∀ y E n as M rs, call y E n as M = some rs → MOK l D G A (inf y).1 (inf y).2.1 (inf y).2.2 E n as M rs
theorem vx_toMet {l : Launch} {y : MethodName} {ws : List Cond} {rm : Room} {Pc : Array Value → State → Prop} {D : va_G} {G : Gam} {A : Nat → Prop} {ρ : List Nat} {rs : List Res} {mc ms : Nat} (hk : ∀ r ∈ rs, r.1.1 < 2) (h : vx_Met l y ws rm Pc (QcOf D G A ρ rs) (XCOf D G A ρ rs) mc ms A) : Met l y ws rm Pc (QcOf D G A ρ rs) mc ms A := by
  intro p e ha hc hk9 s m args below hf happ hP hK
  obtain ⟨n, o, h1, h2, h3, h4⟩ := h p e ha hc hk9 s m args below hf happ hP hK
  refine ⟨n, o, h1, h2, h3, ?_⟩
  rcases h4 with h4 | ⟨q, ho, E, ce, L, hx, -⟩
  · exact h4
  · obtain ⟨⟨r, hr, h5, -⟩, -⟩ := hx
    have := hk r hr
    omega
/-- what a method's walk stands on -/
def Mx (bytes : ByteArray) (nL : Nat) (ret : Option FieldType) (hh : List (Nat × Nat × Nat × Nat)) (wsy : List Cond) (rm : Room) (yn : MethodName) (inf : Inf) (p : Program) (l : Launch) (e : Env) (R : Room) (s : State) (m : MethodId) (args : Array Value) (below : List Frame) (meth : Method) (c : Code) (Q : State → Prop) (D : va_G) (G : Gam) (A : Nat → Prop) (ρ0 : List Nat) (RS : List Res) (Pe : Res → Prop) (call : Call) : Prop :=
  Cx bytes yn.cls wsy p l s m args meth c D G A nL ∧ CallOK l D G A inf call ∧ Fx G A s s.heap ∧ R = rm ∧ Q = vx_MQ below (QcOf D G A ρ0 RS) (XCOf D G A ρ0 RS) args s rm.cells rm.cells A ∧ (∀ r, Pe r → r ∈ RS) ∧ meth.locks = false ∧ c.exceptionTable.toList = tableOf hh ∧ meth.sig.returnType = ret ∧ meth.name = yn.name ∧ l.stackTraces = false ∧ rm.slots = rm.cells
section CALLS
variable {p : Program} {l : Launch} {e : Env} {R : Room} {s : State} {m : MethodId} {args : Array Value} {below : List Frame} {meth : Method} {c : Code} {Q : State → Prop} {D : va_G} {G : Gam} {A : Nat → Prop} {ρ0 : List Nat} {nL : Nat} {Pe : Res → Prop} {cc : ByteArray} {own : String} {Ts : List Cond} {pc : Nat} {K : KK} {call : Call} {RS : List Res}
/-- behind a call that returned -/
theorem call_ret {ρ : List Nat} {H : Heap} {locs : List Loc} {z mc : Nat} {ls : Array Slot} {rest : List Value} {rs : List Res} {a : Array Value} (C : Cx cc own Ts p l s m args meth c D G A nL) (hS : va_S A s.heap H locs) {pc' : Nat} {v : Option Value} {st₀ t T' : State} {L : List Loc} (h0 : st₀.heap = H) (X' : Stand p l e R s m args below meth c T' (locs ++ L) (z + mc) (z + mc)) (hL : ∀ q ∈ L, A q.base) (e1 : T'.heap = t.heap) (e2 : T'.vm = t.vm) (hq : QcOf D G A ρ rs a st₀ (.returned v) t)
    (kk : ∀ (r : Res) (ρ' : List Nat) (H1 : Heap) (locs1 : List Loc), r ∈ rs → valR G ρ' r v → ρ <+: ρ' → envR G r.2.1 → memR D s G A ρ' r.2.2.2.2.2.2.1 r.2.2.2.2.2.1 H1 → va_S A s.heap H1 locs1 → W p l e R s m args below meth c H1 locs1 (z + mc) (z + mc) Q (F0 m pc' ls (v.toList ++ rest))) :
    ∃ tg, Steps p.tables e below (T'.setTop (F0 m pc' ls (v.toList ++ rest))) tg ∧ Q tg := by
  obtain ⟨⟨r, hr, v', ρ', ho, hv, hp, hE, hM⟩, hF⟩ := hq
  cases ho
  obtain ⟨k1, k2, k3⟩ := vx_keep (A0 := A) (A1 := A) h0 e1 hS (fun _ _ h => h) (fun _ h => h) hL hF
  have hal : t.vm.Alike s.vm := by rw [← e2]; exact X'.warmed.alike.symm
  exact kk r ρ' T'.heap (locs ++ L) hr hv hp hE (by rw [e1]; exact memR_moved hal hM) k3 T' rfl X'
theorem inf_ws {y : MethodName} {ws : List Cond} : True := trivial
end CALLS
end
