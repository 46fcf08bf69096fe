/-! the fair: pieces -/
noncomputable def fK (j : Nat) (lo hi : Int) : Fct := ((.inl 459, (0, 0, (j : Int))), lo, hi)
noncomputable def fC (v : Nat) (lo hi : Int) : Fct := ((.inl 460, (0, 0, (v : Int))), lo, hi)
noncomputable def fQ (q : Nat) (lo hi : Int) : Fct := ((.inl 458, (0, 0, (q : Int))), lo, hi)
noncomputable def mdF : MDT := (3, nb_X11_fairNow, [])
noncomputable def sp1 : SPt := ([some (1, 452, 0), none, none], [], [])
noncomputable def sp8 (v e : Nat) (f : List Fct) : SPt := ([some (1, 452, 0), some (0, (v : Int), (v : Int)), some (0, (e : Int), (e : Int))], f, [])
noncomputable def endF : List Pst := [((1, 0), (1, 0, 0), [], [])]
/-- the last loops: staff below three -/
noncomputable def sB (v e st k : Nat) : SPt := sp8 v (e + 1) [k31 (216 + 17 * v) (st + 1) (st + 1), fK (3 * v + k) e e, fC v ((k : Int) + 1) 3]
noncomputable def l8 (v e st : Nat) : List SPt := yif (Nat.blt e 12) [sp8 v (e + 1) [k31 (216 + 17 * v) st st], sB v e st 0, sB v e st 1, sB v e st 2] ++ yif (Nat.blt v 7) [sp8 (v + 1) 0 [k31 (216 + 17 * v) st st]]
noncomputable def ctF8 (v e st : Nat) : Nat → List Ctr := ctL (yif (Nat.blt e 12) [(199, ctC v e st)])
noncomputable def wF8 (v e st : Nat) : Wrg := (ctC v e st).2.2.2.1
noncomputable def chF8 (v e st : Nat) : Bool := xseg kd0 sh0 rt0 bd0 un0 (inW (wF8 v e st)) PR0 MT0 (ctF8 v e st) 2 mdF [(8, l8 v e st)] endF 100000 8 (sp8 v e [k31 (216 + 17 * v) st st])
/-- staff three: nobody comes -/
noncomputable def fK3 (v e m : Nat) : List Fct := Nat.rec [] (fun k ih => fK (3 * v + k) 0 ((e : Int) - 1) :: ih) m
noncomputable def l83 (v e : Nat) : List SPt := yif (Nat.blt e 12) [sp8 v (e + 1) [k31 (216 + 17 * v) 3 3]] ++ yif (Nat.blt v 7) [sp8 (v + 1) 0 [k31 (216 + 17 * v) 3 3]]
noncomputable def chF83 (v e m : Nat) : Bool := xseg kd0 sh0 rt0 bd0 un0 pr9 PR0 MT0 CT9 2 mdF [(8, l83 v e)] endF 100000 8 (sp8 v e (k31 (216 + 17 * v) 3 3 :: fC v m m :: fK3 v e m))
noncomputable def chF8a (v : Nat) : Bool := allN 13 (fun e => Bool.rec false (allN 4 (fun m => Bool.rec (chF83 v e m) true (Bool.rec false (Nat.blt 0 m) (Nat.beq e 0)))) (allN 3 (fun st => chF8 v e st)))
theorem chF8_0 : chF8a 0 = true := by decide +kernel
theorem chF8_1 : chF8a 1 = true := by decide +kernel
theorem chF8_2 : chF8a 2 = true := by decide +kernel
theorem chF8_3 : chF8a 3 = true := by decide +kernel
theorem chF8_4 : chF8a 4 = true := by decide +kernel
theorem chF8_5 : chF8a 5 = true := by decide +kernel
theorem chF8_6 : chF8a 6 = true := by decide +kernel
theorem chF8_7 : chF8a 7 = true := by decide +kernel
theorem chF8_all : ∀ v, v < 8 → chF8a v = true := fun v hv => match v, hv with | 0, _ => chF8_0 | 1, _ => chF8_1 | 2, _ => chF8_2 | 3, _ => chF8_3 | 4, _ => chF8_4 | 5, _ => chF8_5 | 6, _ => chF8_6 | 7, _ => chF8_7 | n + 8, h => absurd h (by omega)
theorem chF5 : xseg kd0 sh0 rt0 bd0 un0 pr9 PR0 MT0 CT9 0 mdF [(8, [sp8 0 0 []])] endF 100000 5 sp1 = true := by decide +kernel
/-- one who applies -/
noncomputable def s3 (e b : Nat) (f : List Fct) : SPt := ([some (1, 452, 0), some (0, (e : Int), (e : Int)), some (0, (b : Int), (b : Int))], f, [])
noncomputable def r13 (δ : Int) : List Rl9 := [((452, 13), (452, 13), δ)]
noncomputable def l3 (e : Nat) : List (SPt × List Rl9) := Nat.rec [] (fun b ih => (s3 e b [fA (12 * b + e) 0 0], r13 (-1)) :: ih) 8
noncomputable def chA (q e : Nat) : Bool := xsegR kd0 sh0 rt0 bd0 un0 (inW [(13, 12, 13)]) PR0 MT0 (ctL [(203, ctNV e)]) 2 mdF [(3, l3 e), (1, [(sp1, r13 (-1))])] [] 100000 1 ([some (1, 452, 0), none, none], [fM 13 1 12, fM 12 q q, fQ q e e], [])
theorem chA_all : allN 16 (fun q => allN 12 (fun e => chA q e)) = true := by decide +kernel
theorem chA0 : xseg kd0 sh0 rt0 bd0 un0 pr9 PR0 MT0 CT9 0 mdF [(5, [sp1])] [] 100000 1 ([some (1, 452, 0), none, none], [fM 13 0 0], []) = true := by decide +kernel
noncomputable def wB (e b : Nat) : Wrg := [(39, ((12 * b + e : Nat) : Int), ((12 * b + e : Nat) : Int)), (38, (b : Int), (b : Int)), (37, ((3 * b : Nat) : Int), ((3 * b + 2 : Nat) : Int)), (36, 0, 15), (13, 13, 13)]
noncomputable def clB : List (Nat × Ctr) := [(204, ct_276), (198, ct_182)]
noncomputable def lB (e b st m : Nat) : List (SPt × List Rl9) := (([some (1, 452, 0), none, none], [fA (12 * b + e) 1 1, fC b m m], []), r13 1) :: yif (Nat.blt (st + m) 3) [(([some (1, 452, 0), none, none], [fA (12 * b + e) 1 1, fC b ((m : Int) + 1) ((m : Int) + 1)], []), r13 0)]
noncomputable def chB (e b st m : Nat) : Bool := xsegR kd0 sh0 rt0 bd0 un0 (inW (wB e b)) PR0 MT0 (ctL clB) 4 mdF [(1, lB e b st m)] [] 100000 3 (s3 e b [fA (12 * b + e) 0 0, k31 (216 + 17 * b) st st, fC b m m, fM 13 0 11])
noncomputable def chBb (b : Nat) : Bool := allN 12 (fun e => allN 4 (fun st => allN 4 (fun m => Bool.rec true (chB e b st m) (Nat.ble (st + m) 3))))
theorem chB_0 : chBb 0 = true := by decide +kernel
theorem chB_1 : chBb 1 = true := by decide +kernel
theorem chB_2 : chBb 2 = true := by decide +kernel
theorem chB_3 : chBb 3 = true := by decide +kernel
theorem chB_4 : chBb 4 = true := by decide +kernel
theorem chB_5 : chBb 5 = true := by decide +kernel
theorem chB_6 : chBb 6 = true := by decide +kernel
theorem chB_7 : chBb 7 = true := by decide +kernel
theorem chB_all : ∀ b, b < 8 → chBb b = true := fun b hb => match b, hb with | 0, _ => chB_0 | 1, _ => chB_1 | 2, _ => chB_2 | 3, _ => chB_3 | 4, _ => chB_4 | 5, _ => chB_5 | 6, _ => chB_6 | 7, _ => chB_7 | n + 8, h => absurd h (by omega)
theorem chF0 : xseg kd0 sh0 rt0 bd0 un0 (inW wSF) PR0 MT0 (ctL [(206, ctSF)]) 0 mdF [(1, [([some (1, 452, 0), none, none], fM 12 0 0 :: fM 13 0 12 :: zK, [])])] [] 100000 0 (spI 3 [(1, 452, 0)], [], []) = true := by decide +kernel
