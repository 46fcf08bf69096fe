/-! the view machine's steps -/
noncomputable def v_push (v : AV) (k : VK) : VK := fun z L S f => k z L (v :: S) f
noncomputable def v_ld (g : AV → Bool) (i : Nat) (k : VK) : VK := fun z L S f => gd (g (nth L i)) (k z L (nth L i :: S) f)
noncomputable def v_st (g : AV → Bool) (i : Nat) (k : VK) : VK := fun z L S f => match S with | v :: S => gd (g v) (gd (lk2 L i) (k z (nst L i v) S f)) | [] => none
noncomputable def v_st2 (g : AV → Bool) (i : Nat) (k : VK) : VK := fun z L S f => match S with | v :: S => gd (g v) (gd (lk2 L i) (k z (nst (nst L i v) (i + 1) (vW 3)) S f)) | [] => none
noncomputable def v_iinc (i c : Nat) (k : VK) : VK := fun z L S f => match nth L i with | .inl x => gd (lk2 L i) (k z (nst L i (vI ((x + c) % 4294967296))) S f) | _ => none
noncomputable def v_2 (g : Nat → Nat → Nat) (k : VK) : VK := fun z L S f => vS2 S fun x y S => k z L (vI (g x y) :: S) f
noncomputable def v_1 (g : Nat → Nat) (k : VK) : VK := fun z L S f => vS1 S fun x S => k z L (vI (g x) :: S) f
noncomputable def v_dup (k : VK) : VK := fun z L S f => match S with | a :: S => gd (Bool.rec true false (isC2 a)) (k z L (a :: a :: S) f) | _ => none
noncomputable def v_dup2 (k : VK) : VK := fun z L S f => match S with | a :: b :: S => gd (Bool.rec true false (isC2 a)) (gd (Bool.rec true false (isC2 b)) (k z L (a :: b :: a :: b :: S) f)) | _ => none
noncomputable def v_pop (k : VK) : VK := fun z L S f => match S with | a :: S => gd (Bool.rec true false (isC2 a)) (k z L S f) | _ => none
noncomputable def v_irem (k : VK) : VK := fun z L S f => vS2 S fun x y S => gd (Nat.ble 1 (y % 4294967296)) (k z L (vI (toN (nI x - nI x / nI y * nI y)) :: S) f)
noncomputable def v_i2l (k : VK) : VK := fun z L S f => vS1 S fun x S => k z L (vJ (toNL (nI x).toInt64) :: S) f
noncomputable def v_l2i (k : VK) : VK := fun z L S f => vJ1 S fun x S => k z L (vI (toN (lN x).toInt32) :: S) f
noncomputable def v_lb (g : Nat → Nat → Nat) (k : VK) : VK := fun z L S f => vJ2 S fun x y S => k z L (vJ (g x y) :: S) f
noncomputable def v_lsh (g : Nat → Nat → Nat) (k : VK) : VK := fun z L S f => vIJ S fun x y S => k z L (vJ (g x y) :: S) f
noncomputable def v_lcmp (k : VK) : VK := fun z L S f => vJ2 S fun x y S => k z L (vI (toN (lg_cmp (lN x) (lN y))) :: S) f
/-- what kind of thing stands in a cell; a field's kind -/
noncomputable def shO (a ci i : Nat) (t : Nat → Option VR) : Option VR := gd (Nat.ble (a + 1) 466) (match sh0 (kd0 a) with | .inl q => gd (Nat.beq q.1 ci) (match yat q.2 i with | some ft => t ft | none => none) | _ => none)
noncomputable def shA (a t j : Nat) (k : Option VR) : Option VR := gd (Nat.ble (a + 1) 466) (match sh0 (kd0 a) with | .inr (.inl q) => gd (Nat.beq q.1 t) (gd (Nat.ble (j + 1) q.2) k) | _ => none)
noncomputable def gft (f : Vw) (a i : Nat) (k : AV → Option VR) : Nat → Option VR := fun ft => match ft with
  | 0 => k (vI (f a i))
  | 1 => k (vJ (f a i))
  | _ + 2 => k (vR (rt0 a i))
noncomputable def v_getf (ci i : Nat) (k : VK) : VK := fun z L S f => vR1 S fun a S => shO a ci i (gft f a i fun v => k z L (v :: S) f)
noncomputable def v_putf (g : AV → Bool) (ci i : Nat) (k : VK) : VK := fun z L S f => vVR S fun a v S => gd (g v) (shO a ci i fun ft => match ft, v with
  | 0, .inl x => k z L S (vup f a i x)
  | 1, .inr (.inr (.inl x)) => k z L S (vup f a i x)
  | _, _ => none)
noncomputable def v_iald (t : Nat) (k : VK) : VK := fun z L S f => vIR S fun a j S => shA a t j (k z L (vI (f a j) :: S) f)
noncomputable def v_iast (k : VK) : VK := fun z L S f => vIIR S fun a j x S => shA a 0 j (k z L S (vup f a j x))
noncomputable def v_bast (k : VK) : VK := fun z L S f => vIIR S fun a j x S => gd (Nat.ble (a + 1) 466) (match sh0 (kd0 a) with
  | .inr (.inl q) => gd (Nat.ble (j + 1) q.2) (match q.1 with
    | 1 => k z L S (vup f a j (toN (nI x).toInt8.toInt32))
    | 2 => gd (Nat.ble x 1) (k z L S (vup f a j x))
    | _ => none)
  | _ => none)
noncomputable def v_aald (k : VK) : VK := fun z L S f => vIR S fun a j S => gd (Nat.ble (a + 1) 466) (match sh0 (kd0 a) with | .inr (.inr (.inl q)) => gd (Nat.ble (j + 1) q.2.1) (k z L (vR (rt0 a j) :: S) f) | _ => none)
noncomputable def v_lald (k : VK) : VK := fun z L S f => vIR S fun a j S => gd (Nat.ble (a + 1) 466) (match sh0 (kd0 a) with | .inr (.inr (.inr N)) => gd (Nat.ble (j + 1) N) (k z L (vJ (f a j) :: S) f) | _ => none)
noncomputable def v_last (k : VK) : VK := fun z L S f => vJIR S fun a j x S => gd (Nat.ble (a + 1) 466) (match sh0 (kd0 a) with | .inr (.inr (.inr N)) => gd (Nat.ble (j + 1) N) (k z L S (vup f a j x)) | _ => none)
noncomputable def v_alen (k : VK) : VK := fun z L S f => vR1 S fun a S => gd (Nat.ble (a + 1) 466) (match sh0 (kd0 a) with | .inr (.inl q) => gd (Nat.ble q.2 100000) (k z L (vI q.2 :: S) f) | _ => none)
noncomputable def vg (g : Nat) (as : List AV) : Bool := match g with
  | 0 => true
  | 1 => (match as with | .inr (.inl _) :: _ => true | _ => false)
  | 2 => gT as (trep (cO 0 []) 9)
  | ci + 3 => (match as with | .inr (.inl k) :: _ => Bool.rec false (match sh0 (kd0 k) with | .inl q => Nat.beq q.1 ci | _ => false) (Nat.ble (k + 1) 466) | _ => false)
/-- what follows a call: it answered, it gave nothing, it threw -/
noncomputable def vbn0 (o : Option VR) (k0 : AV → Vw → Option VR) (k1 : Vw → Option VR) (k2 : Nat → Vw → Option VR) : Option VR := match o with
  | some r => (match r.1.1 with
    | 0 => k0 r.2.1 r.2.2
    | 1 => k1 r.2.2
    | 2 => k2 r.1.2 r.2.2
    | _ => none)
  | none => none
theorem vbnd_ex : ∃ g : Option VR → (AV → Vw → Option VR) → (Vw → Option VR) → (Nat → Vw → Option VR) → Option VR, ∀ o k0 k1 k2, g o k0 k1 k2 = vbn0 o k0 k1 k2 := ⟨vbn0, fun _ _ _ _ => rfl⟩
/-- the same, so that nothing ever computes it -/
noncomputable def vbnd : Option VR → (AV → Vw → Option VR) → (Vw → Option VR) → (Nat → Vw → Option VR) → Option VR := Classical.choose vbnd_ex
theorem vbnd_is (o : Option VR) (k0 : AV → Vw → Option VR) (k1 : Vw → Option VR) (k2 : Nat → Vw → Option VR) : vbnd o k0 k1 k2 = vbn0 o k0 k1 k2 := Classical.choose_spec vbnd_ex o k0 k1 k2
theorem vbnd_0 {o : Option VR} {k0 : AV → Vw → Option VR} {k1 : Vw → Option VR} {k2 : Nat → Vw → Option VR} {b : Nat} {v : AV} {f : Vw} (h : o = some ((0, b), v, f)) : vbnd o k0 k1 k2 = k0 v f := by rw [vbnd_is, h]; rfl
theorem vbnd_1 {o : Option VR} {k0 : AV → Vw → Option VR} {k1 : Vw → Option VR} {k2 : Nat → Vw → Option VR} {b : Nat} {v : AV} {f : Vw} (h : o = some ((1, b), v, f)) : vbnd o k0 k1 k2 = k1 f := by rw [vbnd_is, h]; rfl
theorem vbnd_2 {o : Option VR} {k0 : AV → Vw → Option VR} {k1 : Vw → Option VR} {k2 : Nat → Vw → Option VR} {b : Nat} {v : AV} {f : Vw} (h : o = some ((2, b), v, f)) : vbnd o k0 k1 k2 = k2 b f := by rw [vbnd_is, h]; rfl
noncomputable def v_call (tx : Bool) (g y na bud B : Nat) (vc : VC) (k : VK) : VK := fun z L S f =>
  gd (Nat.ble na S.length) (gd (Nat.ble (catS (spl na [] S).2) 8) (gd (Nat.ble (z + bud) B) (gd (vg g (spl na [] S).1) (vbnd (vc y (spl na [] S).1 f)
    (fun v f' => k (z + bud) L (v :: (spl na [] S).2) f') (fun f' => k (z + bud) L (spl na [] S).2 f') (fun x f' => gd tx (some ((2, x), vW 3, f')))))))
/-- a piece of one row of ints copied to another -/
noncomputable def vcp (f : Vw) (a b sp dp N : Nat) : Vw := fun k i => if k = b ∧ dp ≤ i ∧ i < dp + N then f a (sp + (i - dp)) else f k i
noncomputable def v_copy (k : VK) : VK := fun z L S f => vIIR S fun b dp N S => vIR S fun a sp S => gd (Nat.ble 1 N) (shA a 0 (sp + (N - 1)) (shA b 0 (dp + (N - 1)) (gd (Nat.ble (catS S) 8) (gd (Nat.ble N 100000) (k z L S (vcp f a b sp dp N))))))
noncomputable def vi (vc : VC) (i : Ins) (k : VK) : VK := match i with
  | (n, a1, a2, a3, a4, a5, a6) => match n with
  | 0 => fun z L S f => gd (Nat.ble (a1 + 1) 4294967296) (v_push (vI a1) k z L S f)
  | 1 => v_push (vJ a1) k
  | 2 => v_push (vW a1) k
  | 5 => v_ld (fP a1) a2 k
  | 6 => v_st (fP a1) a2 k
  | 7 => v_st2 (fP a1) a2 k
  | 8 => v_iinc a1 a2 k
  | 9 => v_2 (fun x y => (x + y) % 4294967296) k
  | 10 => v_2 (gB9 a1) k
  | 11 => v_1 (gU9 a1) k
  | 12 => v_dup k
  | 13 => v_dup2 k
  | 14 => v_pop k
  | 15 => v_irem k
  | 16 => v_i2l k
  | 17 => v_l2i k
  | 18 => v_lb g_lor k
  | 19 => v_lsh (gS9 a1) k
  | 20 => v_lcmp k
  | 21 => v_getf a1 a2 k
  | 22 => v_putf (fP a1) a2 a3 k
  | 23 => v_iald a1 k
  | 24 => v_iast k
  | 25 => v_bast k
  | 26 => v_aald k
  | 27 => v_lald k
  | 28 => v_last k
  | 29 => v_alen k
  | 30 => v_copy k
  | 31 => v_call false a1 a2 a3 a4 a5 vc k
  | 32 => v_call true a1 a2 a3 a4 a5 vc k
  | _ => fun _ _ _ _ => none
/-! where a block goes on -/
theorem bv_ex : ∃ g : Nat → Nat, ∀ x, g x = bi x := ⟨bi, fun _ => rfl⟩
/-- bi and the compare, so that nothing ever computes them -/
noncomputable def bv : Nat → Nat := Classical.choose bv_ex
theorem bv_is (x : Nat) : bv x = bi x := Classical.choose_spec bv_ex x
theorem vc3_ex : ∃ g : Nat → Nat → Option VR → Option VR → Option VR → Option VR, ∀ u w a b c, g u w a b c = Bool.rec (Bool.rec c b (Nat.beq u w)) a (Nat.ble (u + 1) w) := ⟨fun u w a b c => Bool.rec (Bool.rec c b (Nat.beq u w)) a (Nat.ble (u + 1) w), fun _ _ _ _ _ => rfl⟩
noncomputable def vc3 : Nat → Nat → Option VR → Option VR → Option VR → Option VR := Classical.choose vc3_ex
theorem vc3_is (u w : Nat) (a b c : Option VR) : vc3 u w a b c = Bool.rec (Bool.rec c b (Nat.beq u w)) a (Nat.ble (u + 1) w) := Classical.choose_spec vc3_ex u w a b c
noncomputable def vt (vc : VC) (i : Tin) (j : Nat → VK) : VK := match i with
  | ((n, a1, a2, a3, a4, a5, a6), ts) => match n with
  | 0 => j a1
  | 1 => fun z L S f => vS2 S fun x y S => vc3 (bv x) (bv y) (j a1 z L S f) (j a2 z L S f) (j a3 z L S f)
  | 2 => fun z L S f => vS1 S fun x S => vc3 (bv x) (bv 0) (j a1 z L S f) (j a2 z L S f) (j a3 z L S f)
  | 3 => fun z L S f => vS1 S fun x S => gd (Nat.ble x 4294967295) (j (nthN ts a1 x) z L S f)
  | 4 => fun z _ S f => match S with | v :: S => (match S with | [] => gd (fP a1 v) (gd (Nat.ble z a2) (some ((0, 0), v, f))) | _ => none) | _ => none
  | 5 => fun z _ S f => match S with | _ :: _ => none | [] => gd (Nat.ble z a1) (some ((1, 0), vW 3, f))
  | 6 => fun z _ S f => match S with | [] => gd (Nat.ble (z + 7) a2) (some ((2, a1), vW 3, f)) | _ => none
  | 7 => fun z L S f => gd (Nat.ble a3 S.length) (gd (Nat.ble (catS (spl a3 [] S).2) 8) (gd (Nat.ble (z + a4) a5) (gd (vg a1 (spl a3 [] S).1) (vbnd (vc a2 (spl a3 [] S).1 f)
    (fun v f' => j a6 (z + a4) L (v :: (spl a3 [] S).2) f') (fun f' => j a6 (z + a4) L (spl a3 [] S).2 f') (fun x f' => Nat.rec none (fun b _ => j b (z + a4) L [vW 1] f') (nthN ts 0 x))))))
  | _ => fun _ _ _ _ => none
noncomputable def vB (vc : VC) (j : Nat → VK) (t : Tin) (l : List Ins) : VK := List.rec (motive := fun _ => VK) (vt vc t j) (fun i _ ih => vi vc i ih) l
noncomputable def vFn0 (vc : VC) (code : List DB) (n : Nat) : Nat → VK := Nat.rec (motive := fun _ => Nat → VK) (fun _ _ _ _ _ => none) (fun _ ih b => match yat code b with | some q => vB vc ih q.2 q.1 | none => fun _ _ _ _ => none) n
theorem vFn_ex : ∃ g : VC → List DB → Nat → Nat → VK, ∀ vc code n, g vc code n = vFn0 vc code n := ⟨vFn0, fun _ _ _ => rfl⟩
/-- the same, so that nothing ever computes it -/
noncomputable def vFn : VC → List DB → Nat → Nat → VK := Classical.choose vFn_ex
theorem vFn_is (vc : VC) (code : List DB) (n : Nat) : vFn vc code n = vFn0 vc code n := Classical.choose_spec vFn_ex vc code n
/-- the texts of the parsers: their length, their signs -/
def txWd : List (List Nat) := [[112, 97, 115, 115], [102, 97, 105, 114], [116, 101, 115, 116], [100, 105, 115, 109, 105, 115, 115], [119, 97, 103, 101], [102, 117, 110, 100], [116, 114, 97, 105, 110], [102, 111, 103], [101, 99, 104, 111], [118, 97, 108, 108, 101, 121], [116, 101, 115, 116, 101, 100]]
noncomputable def vLen (as : List AV) (f : Vw) : Option VR := match as with
  | .inr (.inr (.inr (.inr (.inr (.inl w))))) :: [] => gd (Nat.ble 20 w) (gd (Nat.ble w 30) (some ((0, 0), vI (nthL txWd (w - 20)).length, f)))
  | _ => none
noncomputable def vChr (as : List AV) (f : Vw) : Option VR := match as with
  | .inr (.inr (.inr (.inr (.inr (.inl w))))) :: .inl i :: [] => gd (Nat.ble 20 w) (gd (Nat.ble w 30) (gd (Nat.ble (i + 1) (nthL txWd (w - 20)).length) (some ((0, 0), vI (nthN (nthL txWd (w - 20)) 0 i), f))))
  | _ => none
theorem fu_ex : ∃ F : Nat, F = 1000000 := ⟨1000000, rfl⟩
/-- the fuel, so that nothing counts it down -/
noncomputable def fuM : Nat := Classical.choose fu_ex
theorem fuM_is : fuM = 1000000 := Classical.choose_spec fu_ex
theorem fu9 : ∃ F, fuM = F + 60 := ⟨999940, fuM_is⟩
noncomputable def vM (MT : Nat → Option MDT) (D : Nat) : VC := Nat.rec (motive := fun _ => VC) (fun _ _ _ => none) (fun _ ih y as f => Bool.rec (Bool.rec (match MT y with | some md => gd (Nat.ble (flatL as).length md.1) (vFn ih md.2.1 fuM 0 0 (iniL md.1 as) [] f) | none => none) (vChr as f) (Nat.beq y 339)) (vLen as f) (Nat.beq y 338)) D
