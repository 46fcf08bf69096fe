/-! the view machine: calls, blocks, methods -/
theorem wl_spl : ∀ (na : Nat) (acc S : List AV), na ≤ S.length → WL acc → WL S → WL (spl na acc S).1 ∧ WL (spl na acc S).2 := by
  intro na
  induction na with
  | zero => intro acc S _ h1 h2; exact ⟨h1, h2⟩
  | succ na ih =>
    intro acc S hn h1 h2
    cases S with
    | nil => simp at hn
    | cons v S => exact ih (v :: acc) S (by simpa using hn) (wl_k (wl_c h2).1 h1) (wl_c h2).2
theorem vg_ok {g : Nat} {as : List AV} {M : Mem} (hT : TS M) (h : vg g as = true) : gN g as M = true := by
  match g, h with
  | 0, h => rfl
  | 1, h =>
    rcases as with _ | ⟨a, as⟩
    · cases h
    · rcases a with x | x | x | x | x | x | x | x
      · cases h
      · rfl
      all_goals cases h
  | 2, h => exact h
  | ci + 3, h =>
    rcases as with _ | ⟨a, as⟩
    · cases h
    · rcases a with x | k | x | x | x | x | x | x
      · cases h
      · obtain ⟨h1, h2⟩ := band (show (Bool.rec false (match sh0 (kd0 k) with | .inl q => Nat.beq q.1 ci | _ => false) (Nat.ble (k + 1) 466) : Bool) = true from h)
        have hk : k < 466 := Nat.le_of_ble_eq_true h1
        cases hs : sh0 (kd0 k) with
        | inr s9 => rw [hs] at h2; cases h2
        | inl q =>
          rw [hs] at h2
          obtain ⟨fs, e1, -, -⟩ := co_obj (bd := bdF) hT hk hs
          show (match tget 9 M k with | .inl q => Nat.beq q.1 ci | _ => false : Bool) = true
          rw [e1]
          exact h2
      all_goals cases h
/-- calls that are told -/
def VCk (E : Env9) (call : Call) (vc : VC) : Prop := ∀ (y : Nat) (as : List AV) (f : Vw) (M : Mem) (r : VR), WL as → TS M → Vws M f → vc y as f = some r → VOK E (call y E 466 as M) r
section VCALL
variable {E : Env9} {K : KK} {kv : VK} {call : Call} {vc : VC}
theorem w_call {g y na bud B : Nat} (hC : VCk E call vc) (hK : VS E K kv) : VS E (op_call (gN g) y na bud B call K) (v_call false g y na bud B vc kv) := by
  intro z L S f M r hL hS hT hf h
  obtain ⟨h1, h⟩ := gd_some h
  obtain ⟨h2, h⟩ := gd_some h
  obtain ⟨h3, h⟩ := gd_some h
  obtain ⟨h4, h⟩ := gd_some h
  obtain ⟨w1, w2⟩ := wl_spl na [] S (Nat.le_of_ble_eq_true h1) vwl_0 hS
  unfold op_call
  rw [h1, h2, h3, vg_ok hT h4]
  have h : vbnd (vc y (spl na [] S).1 f) (fun v f' => kv (z + bud) L (v :: (spl na [] S).2) f') (fun f' => kv (z + bud) L (spl na [] S).2 f') (fun x f' => gd false (some ((2, x), vW 3, f'))) = some r := h
  rw [vbnd_is] at h
  cases hx : vc y (spl na [] S).1 f with
  | none => rw [hx] at h; cases h
  | some rc =>
    rw [hx] at h
    obtain ⟨⟨a, b⟩, rv, rf⟩ := rc
    obtain ⟨v, S', L', M', z', e, hv, hT', hf'⟩ := hC y _ f M _ w1 hT hf hx
    rw [e]
    refine (show VOK E (joinR (fun r => match r with
      | ((0, _), E', v, _, _, M', n', _) => fN n' fun n' => K E' n' (z + bud) L (v :: (spl na [] S).2) M'
      | ((1, _), E', _, _, _, M', n', _) => fN n' fun n' => K E' n' (z + bud) L (spl na [] S).2 M'
      | _ => none) [((a, b), E, v, S', L', M', 466, z')]) r from ?_)
    rw [joinR_1]
    match a, h, hv with
    | 0, h, hv =>
      obtain ⟨hv1, hv2⟩ := hv rfl
      have hv1 : v = rv := hv1
      show VOK E (fN 466 fun n' => K E n' (z + bud) L (v :: (spl na [] S).2) M') r
      rw [fN_eq, hv1]
      exact hK (z + bud) L _ rf M' r hL (wl_k (by rw [← hv1]; exact hv2) w2) hT' hf' h
    | 1, h, hv =>
      show VOK E (fN 466 fun n' => K E n' (z + bud) L (spl na [] S).2 M') r
      rw [fN_eq]
      exact hK (z + bud) L _ rf M' r hL w2 hT' hf' h
    | 2, h, hv => cases h
    | n + 3, h, hv => cases h
theorem w_callX {g y na bud B : Nat} (hC : VCk E call vc) (hK : VS E K kv) : VS E (op_callX (gN g) y na bud B call K) (v_call true g y na bud B vc kv) := by
  intro z L S f M r hL hS hT hf h
  obtain ⟨h1, h⟩ := gd_some h
  obtain ⟨h2, h⟩ := gd_some h
  obtain ⟨h3, h⟩ := gd_some h
  obtain ⟨h4, h⟩ := gd_some h
  obtain ⟨w1, w2⟩ := wl_spl na [] S (Nat.le_of_ble_eq_true h1) vwl_0 hS
  unfold op_callX
  rw [h1, h2, h3, vg_ok hT h4]
  have h : vbnd (vc y (spl na [] S).1 f) (fun v f' => kv (z + bud) L (v :: (spl na [] S).2) f') (fun f' => kv (z + bud) L (spl na [] S).2 f') (fun x f' => gd true (some ((2, x), vW 3, f'))) = some r := h
  rw [vbnd_is] at h
  cases hx : vc y (spl na [] S).1 f with
  | none => rw [hx] at h; cases h
  | some rc =>
    rw [hx] at h
    obtain ⟨⟨a, b⟩, rv, rf⟩ := rc
    obtain ⟨v, S', L', M', z', e, hv, hT', hf'⟩ := hC y _ f M _ w1 hT hf hx
    rw [e]
    refine (show VOK E (joinR (fun r => match r with
      | ((0, _), E', v, _, _, M', n', _) => fN n' fun n' => K E' n' (z + bud) L (v :: (spl na [] S).2) M'
      | ((1, _), E', _, _, _, M', n', _) => fN n' fun n' => K E' n' (z + bud) L (spl na [] S).2 M'
      | ((2, x), E', _, _, _, M', n', _) => fN n' fun n' => some [((2, x), E', vW 3, [], [], M', n', z + bud)]
      | _ => none) [((a, b), E, v, S', L', M', 466, z')]) r from ?_)
    rw [joinR_1]
    match a, h, hv with
    | 0, h, hv =>
      obtain ⟨hv1, hv2⟩ := hv rfl
      have hv1 : v = rv := hv1
      show VOK E (fN 466 fun n' => K E n' (z + bud) L (v :: (spl na [] S).2) M') r
      rw [fN_eq, hv1]
      exact hK (z + bud) L _ rf M' r hL (wl_k (by rw [← hv1]; exact hv2) w2) hT' hf' h
    | 1, h, hv =>
      show VOK E (fN 466 fun n' => K E n' (z + bud) L (spl na [] S).2 M') r
      rw [fN_eq]
      exact hK (z + bud) L _ rf M' r hL w2 hT' hf' h
    | 2, h, hv =>
      have h : some (((2, b), vW 3, rf) : VR) = some r := h
      cases h
      show VOK E (fN 466 fun n' => some [((2, b), E, vW 3, [], [], M', n', z + bud)]) _
      rw [fN_eq]
      exact ⟨vW 3, [], [], M', z + bud, rfl, (fun q => by cases q), hT', hf'⟩
    | n + 3, h, hv => cases h
theorem vi_ok (hC : VCk E call vc) (hK : VS E K kv) (i : Ins) : VS E (dn 0 i call K) (vi vc i kv) := by
  obtain ⟨n, a1, a2, a3, a4, a5, a6⟩ := i
  match n with
  | 0 =>
    intro z L S f M r hL hS hT hf h
    obtain ⟨h1, h2⟩ := gd_some (show gd (Nat.ble (a1 + 1) 4294967296) (v_push (vI a1) kv z L S f) = some r from h)
    exact w_push (call := call) (v := vI a1) (Nat.le_of_ble_eq_true h1) hK z L S f M r hL hS hT hf h2
  | 1 => exact w_push (call := call) (v := vJ a1) trivial hK
  | 2 => exact w_push (call := call) (v := vW a1) trivial hK
  | 3 => exact fun z L S f M r _ _ _ _ h => nomatch (show (none : Option VR) = some r from h)
  | 4 => exact fun z L S f M r _ _ _ _ h => nomatch (show (none : Option VR) = some r from h)
  | 5 => exact w_ld (call := call) hK
  | 6 => exact w_st (call := call) hK
  | 7 => exact w_st2 (call := call) hK
  | 8 => exact w_iinc (call := call) hK
  | 9 => exact w_2 (call := call) (fun z L S M x y => op_add_n (call := call)) (fun x y => Nat.mod_lt _ (by omega)) hK
  | 10 => exact w_2 (call := call) (fun z L S M x y => op_bin_n (call := call)) (gB9_lt a1) hK
  | 11 => exact w_1 (call := call) (gU9_lt a1) hK
  | 12 => exact w_dup (call := call) hK
  | 13 => exact w_dup2 (call := call) hK
  | 14 => exact w_pop (call := call) hK
  | 15 => exact w_irem (call := call) hK
  | 16 => exact w_i2l (call := call) hK
  | 17 => exact w_l2i (call := call) hK
  | 18 => exact w_lb (call := call) hK
  | 19 => exact w_lsh (call := call) hK
  | 20 => exact w_lcmp (call := call) hK
  | 21 => exact w_getf (call := call) hK
  | 22 => exact w_putf (call := call) hK
  | 23 => exact w_iald (call := call) hK
  | 24 => exact w_iast (call := call) hK
  | 25 => exact w_bast (call := call) hK
  | 26 => exact w_aald (call := call) hK
  | 27 => exact w_lald (call := call) hK
  | 28 => exact w_last (call := call) hK
  | 29 => exact w_alen (call := call) hK
  | 30 => exact w_copy (call := call) hK
  | 31 => exact w_call (call := call) hC hK
  | 32 => exact w_callX (call := call) hC hK
  | n + 33 => exact fun z L S f M r _ _ _ _ h => nomatch (show (none : Option VR) = some r from h)
theorem vc3_ok {u w : Nat} {a b c : OR} {a' b' c' : Option VR} {r : VR} (ha : a' = some r → VOK E a r) (hb : b' = some r → VOK E b r) (hc : c' = some r → VOK E c r) (h : vc3 u w a' b' c' = some r) : VOK E (c3 u w a b c) r := by
  rw [vc3_is] at h
  show VOK E (Bool.rec (Bool.rec c b (Nat.beq u w)) a (Nat.ble (u + 1) w) : OR) r
  cases h1 : Nat.ble (u + 1) w with
  | true => rw [h1] at h; exact ha h
  | false =>
    rw [h1] at h
    cases h2 : Nat.beq u w with
    | true => rw [h2] at h; exact hb h
    | false => rw [h2] at h; exact hc h
variable {j : Jmp} {jv : Nat → VK}
theorem cmp3_II {x y : Nat} {E : Env9} {kl ke kg : Env9 → OR} : cmp3 (vI x) (vI y) E kl ke kg = c3 (bi x) (bi y) (kl E) (ke E) (kg E) := rfl
theorem vt_cmp {x y a1 a2 a3 z : Nat} {L S : List AV} {M : Mem} {r : VR} {o1 o2 o3 : Option VR} (h1 : o1 = some r → VOK E (j a1 E 466 z L S M) r) (h2 : o2 = some r → VOK E (j a2 E 466 z L S M) r) (h3 : o3 = some r → VOK E (j a3 E 466 z L S M) r) (h : vc3 (bv x) (bv y) o1 o2 o3 = some r) : VOK E (cmp3 (vI x) (vI y) E (fun E => j a1 E 466 z L S M) (fun E => j a2 E 466 z L S M) (fun E => j a3 E 466 z L S M)) r := by
  rw [bv_is, bv_is] at h
  rw [cmp3_II]
  generalize bi x = u at h ⊢
  generalize bi y = w at h ⊢
  exact vc3_ok h1 h2 h3 h
theorem tm_icmp_e {a b : AV} {a1 a2 a3 n z : Nat} {L S : List AV} {M : Mem} : tm_icmp a1 a2 a3 call j E n z L (b :: a :: S) M = cmp3 a b E (fun E => j a1 E n z L S M) (fun E => j a2 E n z L S M) (fun E => j a3 E n z L S M) := rfl
theorem tm_if_e {a : AV} {a1 a2 a3 n z : Nat} {L S : List AV} {M : Mem} : tm_if a1 a2 a3 call j E n z L (a :: S) M = cmp3 a (vI 0) E (fun E => j a1 E n z L S M) (fun E => j a2 E n z L S M) (fun E => j a3 E n z L S M) := rfl
theorem dtm_1 {a1 a2 a3 a4 a5 a6 : Nat} {ts : List Nat} : dtm 0 ((1, a1, a2, a3, a4, a5, a6), ts) = tm_icmp a1 a2 a3 := rfl
theorem dtm_2 {a1 a2 a3 a4 a5 a6 : Nat} {ts : List Nat} : dtm 0 ((2, a1, a2, a3, a4, a5, a6), ts) = tm_if a1 a2 a3 := rfl
theorem vt_1 (hJ : ∀ b, VS E (j b) (jv b)) (a1 a2 a3 a4 a5 a6 : Nat) (ts : List Nat) : VS E (dtm 0 ((1, a1, a2, a3, a4, a5, a6), ts) call j) (vt vc ((1, a1, a2, a3, a4, a5, a6), ts) jv) := by
  intro z L S f M r hL hS hT hf h
  rw [dtm_1]
  obtain ⟨x, y, S', rfl, h9⟩ := vS2_some (show vS2 S (fun x y S => vc3 (bv x) (bv y) (jv a1 z L S f) (jv a2 z L S f) (jv a3 z L S f)) = some r from h)
  clear h
  rw [tm_icmp_e]
  exact vt_cmp (o1 := jv a1 z L S' f) (o2 := jv a2 z L S' f) (o3 := jv a3 z L S' f) (hJ a1 z L S' f M r hL (wl_c (wl_c hS).2).2 hT hf) (hJ a2 z L S' f M r hL (wl_c (wl_c hS).2).2 hT hf) (hJ a3 z L S' f M r hL (wl_c (wl_c hS).2).2 hT hf) h9
theorem vt_2 (hJ : ∀ b, VS E (j b) (jv b)) (a1 a2 a3 a4 a5 a6 : Nat) (ts : List Nat) : VS E (dtm 0 ((2, a1, a2, a3, a4, a5, a6), ts) call j) (vt vc ((2, a1, a2, a3, a4, a5, a6), ts) jv) := by
  intro z L S f M r hL hS hT hf h
  rw [dtm_2]
  obtain ⟨x, S', rfl, h9⟩ := vS1_some (show vS1 S (fun x S => vc3 (bv x) (bv 0) (jv a1 z L S f) (jv a2 z L S f) (jv a3 z L S f)) = some r from h)
  clear h
  rw [tm_if_e]
  exact vt_cmp (o1 := jv a1 z L S' f) (o2 := jv a2 z L S' f) (o3 := jv a3 z L S' f) (hJ a1 z L S' f M r hL (wl_c hS).2 hT hf) (hJ a2 z L S' f M r hL (wl_c hS).2 hT hf) (hJ a3 z L S' f M r hL (wl_c hS).2 hT hf) h9
theorem vt_3 (hJ : ∀ b, VS E (j b) (jv b)) (a1 a2 a3 a4 a5 a6 : Nat) (ts : List Nat) : VS E (dtm 0 ((3, a1, a2, a3, a4, a5, a6), ts) call j) (vt vc ((3, a1, a2, a3, a4, a5, a6), ts) jv) := by
  intro z L S f M r hL hS hT hf h
  obtain ⟨x, S', rfl, h9⟩ := vS1_some (k := fun x S => gd (Nat.ble x 4294967295) (jv (nthN ts a1 x) z L S f)) (show vS1 S (fun x S => gd (Nat.ble x 4294967295) (jv (nthN ts a1 x) z L S f)) = some r from h)
  obtain ⟨h1, h2⟩ := gd_some h9
  show VOK E (gd (Nat.ble x 4294967295) (j (nthN ts a1 x) E 466 z L S' M)) r
  rw [h1]
  exact hJ _ z L S' f M r hL (wl_c hS).2 hT hf h2
theorem vt_4 (hJ : ∀ b, VS E (j b) (jv b)) (a1 a2 a3 a4 a5 a6 : Nat) (ts : List Nat) : VS E (dtm 0 ((4, a1, a2, a3, a4, a5, a6), ts) call j) (vt vc ((4, a1, a2, a3, a4, a5, a6), ts) jv) := by
  intro z L S f M r hL hS hT hf h
  rcases S with _ | ⟨v, S⟩
  · cases h
  rcases S with _ | ⟨w, S⟩
  · obtain ⟨h1, h⟩ := gd_some (show gd (fP a1 v) (gd (Nat.ble z a2) (some (((0, 0), v, f) : VR))) = some r from h)
    obtain ⟨h2, h⟩ := gd_some h
    cases h
    show VOK E (gd (fP a1 v) (gd (Nat.ble z a2) (some [((0, 0), E, v, [], [], M, 466, z)]))) _
    rw [h1, h2]
    exact ⟨v, [], [], M, z, rfl, fun _ => ⟨rfl, (wl_c hS).1⟩, hT, hf⟩
  · cases h
theorem vt_5 (hJ : ∀ b, VS E (j b) (jv b)) (a1 a2 a3 a4 a5 a6 : Nat) (ts : List Nat) : VS E (dtm 0 ((5, a1, a2, a3, a4, a5, a6), ts) call j) (vt vc ((5, a1, a2, a3, a4, a5, a6), ts) jv) := by
  intro z L S f M r hL hS hT hf h
  rcases S with _ | ⟨v, S⟩
  · obtain ⟨h1, h⟩ := gd_some (show gd (Nat.ble z a1) (some (((1, 0), vW 3, f) : VR)) = some r from h)
    cases h
    show VOK E (gd (Nat.ble z a1) (some [((1, 0), E, vW 3, [], [], M, 466, z)])) _
    rw [h1]
    exact ⟨vW 3, [], [], M, z, rfl, (fun q => by cases q), hT, hf⟩
  · cases h
theorem vt_6 (hJ : ∀ b, VS E (j b) (jv b)) (a1 a2 a3 a4 a5 a6 : Nat) (ts : List Nat) : VS E (dtm 0 ((6, a1, a2, a3, a4, a5, a6), ts) call j) (vt vc ((6, a1, a2, a3, a4, a5, a6), ts) jv) := by
  intro z L S f M r hL hS hT hf h
  rcases S with _ | ⟨v, S⟩
  · obtain ⟨h1, h⟩ := gd_some (show gd (Nat.ble (z + 7) a2) (some (((2, a1), vW 3, f) : VR)) = some r from h)
    cases h
    show VOK E (gd (Nat.ble (z + 7) a2) (some [((2, a1), E, vW 3, [], [], M, 466, z)])) _
    rw [h1]
    exact ⟨vW 3, [], [], M, z, rfl, (fun q => by cases q), hT, hf⟩
  · cases h
theorem vt_7 (hC : VCk E call vc) (hJ : ∀ b, VS E (j b) (jv b)) (a1 a2 a3 a4 a5 a6 : Nat) (ts : List Nat) : VS E (dtm 0 ((7, a1, a2, a3, a4, a5, a6), ts) call j) (vt vc ((7, a1, a2, a3, a4, a5, a6), ts) jv) := by
  intro z L S f M r hL hS hT hf h
  have h : gd (Nat.ble a3 S.length) (gd (Nat.ble (catS (spl a3 [] S).2) 8) (gd (Nat.ble (z + a4) a5) (gd (vg a1 (spl a3 [] S).1) (vbnd (vc a2 (spl a3 [] S).1 f) (fun v f' => jv a6 (z + a4) L (v :: (spl a3 [] S).2) f') (fun f' => jv a6 (z + a4) L (spl a3 [] S).2 f') (fun x f' => Nat.rec none (fun b _ => jv b (z + a4) L [vW 1] f') (nthN ts 0 x)))))) = some r := h
  obtain ⟨h1, h⟩ := gd_some h
  obtain ⟨h2, h⟩ := gd_some h
  obtain ⟨h3, h⟩ := gd_some h
  obtain ⟨h4, h⟩ := gd_some h
  have h1 : Nat.ble a3 S.length = true := h1
  have h2 : Nat.ble (catS (spl a3 [] S).2) 8 = true := h2
  have h3 : Nat.ble (z + a4) a5 = true := h3
  have h4 : vg a1 (spl a3 [] S).1 = true := h4
  obtain ⟨w1, w2⟩ := wl_spl a3 [] S (Nat.le_of_ble_eq_true h1) vwl_0 hS
  show VOK E (tm_callH (gN a1) a2 a3 a4 (a5 + 0) a6 ts call j E 466 z L S M) r
  unfold tm_callH
  rw [h1, h2, show Nat.ble (z + a4) (a5 + 0) = true from h3, vg_ok hT h4]
  have h : vbnd (vc a2 (spl a3 [] S).1 f) (fun v f' => jv a6 (z + a4) L (v :: (spl a3 [] S).2) f') (fun f' => jv a6 (z + a4) L (spl a3 [] S).2 f') (fun x f' => Nat.rec none (fun b _ => jv b (z + a4) L [vW 1] f') (nthN ts 0 x)) = some r := h
  rw [vbnd_is] at h
  cases hx : vc a2 (spl a3 [] S).1 f with
  | none => rw [hx] at h; cases h
  | some rc =>
    rw [hx] at h
    obtain ⟨⟨a, b⟩, rv, rf⟩ := rc
    obtain ⟨v, S', L', M', z', e, hv, hT', hf'⟩ := hC a2 _ f M _ w1 hT hf hx
    rw [e]
    refine (show VOK E (joinR (fun r => match r with
      | ((0, _), E', v, _, _, M', n', _) => fN n' fun n' => j a6 E' n' (z + a4) L (v :: (spl a3 [] S).2) M'
      | ((1, _), E', _, _, _, M', n', _) => fN n' fun n' => j a6 E' n' (z + a4) L (spl a3 [] S).2 M'
      | ((2, x), E', _, _, _, M', n', _) => fN n' fun n' => hcase (nthN ts 0 x) fun b => j b E' n' (z + a4) L [vW 1] M'
      | _ => none) [((a, b), E, v, S', L', M', 466, z')]) r from ?_)
    rw [joinR_1]
    match a, h, hv with
    | 0, h, hv =>
      obtain ⟨hv1, hv2⟩ := hv rfl
      have hv1 : v = rv := hv1
      show VOK E (fN 466 fun n' => j a6 E n' (z + a4) L (v :: (spl a3 [] S).2) M') r
      rw [fN_eq, hv1]
      exact hJ a6 (z + a4) L _ rf M' r hL (wl_k (by rw [← hv1]; exact hv2) w2) hT' hf' h
    | 1, h, hv =>
      show VOK E (fN 466 fun n' => j a6 E n' (z + a4) L (spl a3 [] S).2 M') r
      rw [fN_eq]
      exact hJ a6 (z + a4) L _ rf M' r hL w2 hT' hf' h
    | 2, h, hv =>
      show VOK E (fN 466 fun n' => hcase (nthN ts 0 b) fun b => j b E n' (z + a4) L [vW 1] M') r
      rw [fN_eq]
      have h : (Nat.rec none (fun b _ => jv b (z + a4) L [vW 1] rf) (nthN ts 0 b) : Option VR) = some r := h
      cases hn : nthN ts 0 b with
      | zero => rw [hn] at h; cases h
      | succ c =>
        rw [hn] at h
        exact hJ c (z + a4) L _ rf M' r hL (wl_k (v := vW 1) trivial vwl_0) hT' hf' h
    | n + 3, h, hv => cases h
theorem vt_ok (hC : VCk E call vc) (hJ : ∀ b, VS E (j b) (jv b)) (i : Tin) : VS E (dtm 0 i call j) (vt vc i jv) := by
  obtain ⟨⟨n, a1, a2, a3, a4, a5, a6⟩, ts⟩ := i
  match n with
  | 0 => exact hJ a1
  | 1 => exact vt_1 hJ a1 a2 a3 a4 a5 a6 ts
  | 2 => exact vt_2 hJ a1 a2 a3 a4 a5 a6 ts
  | 3 => exact vt_3 hJ a1 a2 a3 a4 a5 a6 ts
  | 4 => exact vt_4 hJ a1 a2 a3 a4 a5 a6 ts
  | 5 => exact vt_5 hJ a1 a2 a3 a4 a5 a6 ts
  | 6 => exact vt_6 hJ a1 a2 a3 a4 a5 a6 ts
  | 7 => exact vt_7 hC hJ a1 a2 a3 a4 a5 a6 ts
  | n + 8 => exact fun z L S f M r _ _ _ _ h => nomatch (show (none : Option VR) = some r from h)
theorem vB_ok (hC : VCk E call vc) (hJ : ∀ b, VS E (j b) (jv b)) (t : Tin) : ∀ l : List Ins, VS E (runB call j (dtm 0 t) (dnL 0 l)) (vB vc jv t l) := by
  intro l
  induction l with
  | nil => exact vt_ok hC hJ t
  | cons i l ih => exact vi_ok hC ih i
theorem vF_ok (hC : VCk E call vc) {d : Nat} {ct : TrT Blk d} {code : List DB} (hcode : ∀ b q, yat code b = some q → tget d ct b = dnB 0 q) : ∀ (n f : Nat), n ≤ f → ∀ b, VS E (runF call d ct f b) (vFn vc code n b) := by
  intro n
  induction n with
  | zero =>
    intro f _ b z L S g M r _ _ _ _ h
    rw [vFn_is] at h
    exact nomatch (show (none : Option VR) = some r from h)
  | succ n ih =>
    intro f hf b
    obtain ⟨f', rfl⟩ : ∃ f', f = f' + 1 := ⟨f - 1, by omega⟩
    intro z L S g M r hL hS hT hv h
    rw [vFn_is] at h
    have h : (match yat code b with | some q => vB vc (vFn0 vc code n) q.2 q.1 | none => fun _ _ _ _ => none : VK) z L S g = some r := h
    rw [← vFn_is] at h
    cases hb : yat code b with
    | none => rw [hb] at h; cases h
    | some q =>
      rw [hb] at h
      show VOK E (runB call (runF call d ct f') (tget d ct b).2 (tget d ct b).1 E 466 z L S M) r
      rw [hcode b q hb]
      exact vB_ok hC (fun b' => ih f' (by omega) b') q.2 q.1 z L S g M r hL hS hT hv h
end VCALL
theorem wl_app {l m : List AV} (h1 : WL l) (h2 : WL m) : WL (l ++ m) := fun v hv => (List.mem_append.mp hv).elim (h1 v) (h2 v)
theorem wl_rep : ∀ n, WL (repA (vW 3) n) := by
  intro n
  induction n with
  | zero => exact vwl_0
  | succ n ih => exact wl_k (v := vW 3) trivial ih
theorem wl_flat : ∀ {as : List AV}, WL as → WL (flatL as) := by
  intro as
  induction as with
  | nil => intro _; exact vwl_0
  | cons a as ih =>
    intro h
    show WL (Bool.rec (a :: flatL as) (a :: vW 3 :: flatL as) (isC2 a))
    cases isC2 a with
    | false => exact wl_k (wl_c h).1 (ih (wl_c h).2)
    | true => exact wl_k (wl_c h).1 (wl_k (v := vW 3) trivial (ih (wl_c h).2))
theorem vLen_ok {E : Env9} {k : Nat} {as : List AV} {f : Vw} {M : Mem} {r : VR} (hT : TS M) (hf : Vws M f) (h : vLen as f = some r) : VOK E (runM (k + 5) 338 E 466 as M) r := by
  rcases as with _ | ⟨a, as⟩
  · cases h
  rcases a with x | x | x | x | x | w | x | x
  all_goals first | (cases h; done) | skip
  cases as with
  | cons _ _ => cases h
  | nil =>
    obtain ⟨h1, h⟩ := gd_some (show gd (Nat.ble 20 w) (gd (Nat.ble w 30) (some (((0, 0), vI (nthL txWd (w - 20)).length, f) : VR))) = some r from h)
    obtain ⟨h2, h⟩ := gd_some h
    have h1 := Nat.le_of_ble_eq_true h1
    have h2 := Nat.le_of_ble_eq_true h2
    cases h
    rcases (show w = 20 ∨ w = 21 ∨ w = 22 ∨ w = 23 ∨ w = 24 ∨ w = 25 ∨ w = 26 ∨ w = 27 ∨ w = 28 ∨ w = 29 ∨ w = 30 by omega) with rfl | rfl | rfl | rfl | rfl | rfl | rfl | rfl | rfl | rfl | rfl
    · exact ⟨vI 4, [], [], M, 0, tsl_20 k E M, fun _ => ⟨rfl, by show 4 < 4294967296; decide⟩, hT, hf⟩
    · exact ⟨vI 4, [], [], M, 0, tsl_21 k E M, fun _ => ⟨rfl, by show 4 < 4294967296; decide⟩, hT, hf⟩
    · exact ⟨vI 4, [], [], M, 0, tsl_22 k E M, fun _ => ⟨rfl, by show 4 < 4294967296; decide⟩, hT, hf⟩
    · exact ⟨vI 7, [], [], M, 0, tsl_23 k E M, fun _ => ⟨rfl, by show 7 < 4294967296; decide⟩, hT, hf⟩
    · exact ⟨vI 4, [], [], M, 0, tsl_24 k E M, fun _ => ⟨rfl, by show 4 < 4294967296; decide⟩, hT, hf⟩
    · exact ⟨vI 4, [], [], M, 0, tsl_25 k E M, fun _ => ⟨rfl, by show 4 < 4294967296; decide⟩, hT, hf⟩
    · exact ⟨vI 5, [], [], M, 0, tsl_26 k E M, fun _ => ⟨rfl, by show 5 < 4294967296; decide⟩, hT, hf⟩
    · exact ⟨vI 3, [], [], M, 0, tsl_27 k E M, fun _ => ⟨rfl, by show 3 < 4294967296; decide⟩, hT, hf⟩
    · exact ⟨vI 4, [], [], M, 0, tsl_28 k E M, fun _ => ⟨rfl, by show 4 < 4294967296; decide⟩, hT, hf⟩
    · exact ⟨vI 6, [], [], M, 0, tsl_29 k E M, fun _ => ⟨rfl, by show 6 < 4294967296; decide⟩, hT, hf⟩
    · exact ⟨vI 6, [], [], M, 0, tsl_30 k E M, fun _ => ⟨rfl, by show 6 < 4294967296; decide⟩, hT, hf⟩
theorem vChr_ok {E : Env9} {k : Nat} {as : List AV} {f : Vw} {M : Mem} {r : VR} (hT : TS M) (hf : Vws M f) (h : vChr as f = some r) : VOK E (runM (k + 5) 339 E 466 as M) r := by
  rcases as with _ | ⟨a, as⟩
  · cases h
  rcases a with x | x | x | x | x | w | x | x
  all_goals first | (cases h; done) | skip
  rcases as with _ | ⟨b, as⟩
  · cases h
  rcases b with i | x | x | x | x | x | x | x
  all_goals first | (cases h; done) | skip
  cases as with
  | cons _ _ => cases h
  | nil =>
    obtain ⟨h1, h⟩ := gd_some (show gd (Nat.ble 20 w) (gd (Nat.ble w 30) (gd (Nat.ble (i + 1) (nthL txWd (w - 20)).length) (some (((0, 0), vI (nthN (nthL txWd (w - 20)) 0 i), f) : VR)))) = some r from h)
    obtain ⟨h2, h⟩ := gd_some h
    obtain ⟨h3, h⟩ := gd_some h
    have h1 := Nat.le_of_ble_eq_true h1
    have h2 := Nat.le_of_ble_eq_true h2
    have h3 := Nat.le_of_ble_eq_true h3
    cases h
    rcases (show w = 20 ∨ w = 21 ∨ w = 22 ∨ w = 23 ∨ w = 24 ∨ w = 25 ∨ w = 26 ∨ w = 27 ∨ w = 28 ∨ w = 29 ∨ w = 30 by omega) with rfl | rfl | rfl | rfl | rfl | rfl | rfl | rfl | rfl | rfl | rfl
    · have h4 : i < 4 := h3
      rcases (show i = 0 ∨ i = 1 ∨ i = 2 ∨ i = 3 by omega) with rfl | rfl | rfl | rfl
      · exact ⟨vI 112, [], [], M, 0, tsc_20_0 k E M, fun _ => ⟨rfl, by show 112 < 4294967296; decide⟩, hT, hf⟩
      · exact ⟨vI 97, [], [], M, 0, tsc_20_1 k E M, fun _ => ⟨rfl, by show 97 < 4294967296; decide⟩, hT, hf⟩
      · exact ⟨vI 115, [], [], M, 0, tsc_20_2 k E M, fun _ => ⟨rfl, by show 115 < 4294967296; decide⟩, hT, hf⟩
      · exact ⟨vI 115, [], [], M, 0, tsc_20_3 k E M, fun _ => ⟨rfl, by show 115 < 4294967296; decide⟩, hT, hf⟩
    · have h4 : i < 4 := h3
      rcases (show i = 0 ∨ i = 1 ∨ i = 2 ∨ i = 3 by omega) with rfl | rfl | rfl | rfl
      · exact ⟨vI 102, [], [], M, 0, tsc_21_0 k E M, fun _ => ⟨rfl, by show 102 < 4294967296; decide⟩, hT, hf⟩
      · exact ⟨vI 97, [], [], M, 0, tsc_21_1 k E M, fun _ => ⟨rfl, by show 97 < 4294967296; decide⟩, hT, hf⟩
      · exact ⟨vI 105, [], [], M, 0, tsc_21_2 k E M, fun _ => ⟨rfl, by show 105 < 4294967296; decide⟩, hT, hf⟩
      · exact ⟨vI 114, [], [], M, 0, tsc_21_3 k E M, fun _ => ⟨rfl, by show 114 < 4294967296; decide⟩, hT, hf⟩
    · have h4 : i < 4 := h3
      rcases (show i = 0 ∨ i = 1 ∨ i = 2 ∨ i = 3 by omega) with rfl | rfl | rfl | rfl
      · exact ⟨vI 116, [], [], M, 0, tsc_22_0 k E M, fun _ => ⟨rfl, by show 116 < 4294967296; decide⟩, hT, hf⟩
      · exact ⟨vI 101, [], [], M, 0, tsc_22_1 k E M, fun _ => ⟨rfl, by show 101 < 4294967296; decide⟩, hT, hf⟩
      · exact ⟨vI 115, [], [], M, 0, tsc_22_2 k E M, fun _ => ⟨rfl, by show 115 < 4294967296; decide⟩, hT, hf⟩
      · exact ⟨vI 116, [], [], M, 0, tsc_22_3 k E M, fun _ => ⟨rfl, by show 116 < 4294967296; decide⟩, hT, hf⟩
    · have h4 : i < 7 := h3
      rcases (show i = 0 ∨ i = 1 ∨ i = 2 ∨ i = 3 ∨ i = 4 ∨ i = 5 ∨ i = 6 by omega) with rfl | rfl | rfl | rfl | rfl | rfl | rfl
      · exact ⟨vI 100, [], [], M, 0, tsc_23_0 k E M, fun _ => ⟨rfl, by show 100 < 4294967296; decide⟩, hT, hf⟩
      · exact ⟨vI 105, [], [], M, 0, tsc_23_1 k E M, fun _ => ⟨rfl, by show 105 < 4294967296; decide⟩, hT, hf⟩
      · exact ⟨vI 115, [], [], M, 0, tsc_23_2 k E M, fun _ => ⟨rfl, by show 115 < 4294967296; decide⟩, hT, hf⟩
      · exact ⟨vI 109, [], [], M, 0, tsc_23_3 k E M, fun _ => ⟨rfl, by show 109 < 4294967296; decide⟩, hT, hf⟩
      · exact ⟨vI 105, [], [], M, 0, tsc_23_4 k E M, fun _ => ⟨rfl, by show 105 < 4294967296; decide⟩, hT, hf⟩
      · exact ⟨vI 115, [], [], M, 0, tsc_23_5 k E M, fun _ => ⟨rfl, by show 115 < 4294967296; decide⟩, hT, hf⟩
      · exact ⟨vI 115, [], [], M, 0, tsc_23_6 k E M, fun _ => ⟨rfl, by show 115 < 4294967296; decide⟩, hT, hf⟩
    · have h4 : i < 4 := h3
      rcases (show i = 0 ∨ i = 1 ∨ i = 2 ∨ i = 3 by omega) with rfl | rfl | rfl | rfl
      · exact ⟨vI 119, [], [], M, 0, tsc_24_0 k E M, fun _ => ⟨rfl, by show 119 < 4294967296; decide⟩, hT, hf⟩
      · exact ⟨vI 97, [], [], M, 0, tsc_24_1 k E M, fun _ => ⟨rfl, by show 97 < 4294967296; decide⟩, hT, hf⟩
      · exact ⟨vI 103, [], [], M, 0, tsc_24_2 k E M, fun _ => ⟨rfl, by show 103 < 4294967296; decide⟩, hT, hf⟩
      · exact ⟨vI 101, [], [], M, 0, tsc_24_3 k E M, fun _ => ⟨rfl, by show 101 < 4294967296; decide⟩, hT, hf⟩
    · have h4 : i < 4 := h3
      rcases (show i = 0 ∨ i = 1 ∨ i = 2 ∨ i = 3 by omega) with rfl | rfl | rfl | rfl
      · exact ⟨vI 102, [], [], M, 0, tsc_25_0 k E M, fun _ => ⟨rfl, by show 102 < 4294967296; decide⟩, hT, hf⟩
      · exact ⟨vI 117, [], [], M, 0, tsc_25_1 k E M, fun _ => ⟨rfl, by show 117 < 4294967296; decide⟩, hT, hf⟩
      · exact ⟨vI 110, [], [], M, 0, tsc_25_2 k E M, fun _ => ⟨rfl, by show 110 < 4294967296; decide⟩, hT, hf⟩
      · exact ⟨vI 100, [], [], M, 0, tsc_25_3 k E M, fun _ => ⟨rfl, by show 100 < 4294967296; decide⟩, hT, hf⟩
    · have h4 : i < 5 := h3
      rcases (show i = 0 ∨ i = 1 ∨ i = 2 ∨ i = 3 ∨ i = 4 by omega) with rfl | rfl | rfl | rfl | rfl
      · exact ⟨vI 116, [], [], M, 0, tsc_26_0 k E M, fun _ => ⟨rfl, by show 116 < 4294967296; decide⟩, hT, hf⟩
      · exact ⟨vI 114, [], [], M, 0, tsc_26_1 k E M, fun _ => ⟨rfl, by show 114 < 4294967296; decide⟩, hT, hf⟩
      · exact ⟨vI 97, [], [], M, 0, tsc_26_2 k E M, fun _ => ⟨rfl, by show 97 < 4294967296; decide⟩, hT, hf⟩
      · exact ⟨vI 105, [], [], M, 0, tsc_26_3 k E M, fun _ => ⟨rfl, by show 105 < 4294967296; decide⟩, hT, hf⟩
      · exact ⟨vI 110, [], [], M, 0, tsc_26_4 k E M, fun _ => ⟨rfl, by show 110 < 4294967296; decide⟩, hT, hf⟩
    · have h4 : i < 3 := h3
      rcases (show i = 0 ∨ i = 1 ∨ i = 2 by omega) with rfl | rfl | rfl
      · exact ⟨vI 102, [], [], M, 0, tsc_27_0 k E M, fun _ => ⟨rfl, by show 102 < 4294967296; decide⟩, hT, hf⟩
      · exact ⟨vI 111, [], [], M, 0, tsc_27_1 k E M, fun _ => ⟨rfl, by show 111 < 4294967296; decide⟩, hT, hf⟩
      · exact ⟨vI 103, [], [], M, 0, tsc_27_2 k E M, fun _ => ⟨rfl, by show 103 < 4294967296; decide⟩, hT, hf⟩
    · have h4 : i < 4 := h3
      rcases (show i = 0 ∨ i = 1 ∨ i = 2 ∨ i = 3 by omega) with rfl | rfl | rfl | rfl
      · exact ⟨vI 101, [], [], M, 0, tsc_28_0 k E M, fun _ => ⟨rfl, by show 101 < 4294967296; decide⟩, hT, hf⟩
      · exact ⟨vI 99, [], [], M, 0, tsc_28_1 k E M, fun _ => ⟨rfl, by show 99 < 4294967296; decide⟩, hT, hf⟩
      · exact ⟨vI 104, [], [], M, 0, tsc_28_2 k E M, fun _ => ⟨rfl, by show 104 < 4294967296; decide⟩, hT, hf⟩
      · exact ⟨vI 111, [], [], M, 0, tsc_28_3 k E M, fun _ => ⟨rfl, by show 111 < 4294967296; decide⟩, hT, hf⟩
    · have h4 : i < 6 := h3
      rcases (show i = 0 ∨ i = 1 ∨ i = 2 ∨ i = 3 ∨ i = 4 ∨ i = 5 by omega) with rfl | rfl | rfl | rfl | rfl | rfl
      · exact ⟨vI 118, [], [], M, 0, tsc_29_0 k E M, fun _ => ⟨rfl, by show 118 < 4294967296; decide⟩, hT, hf⟩
      · exact ⟨vI 97, [], [], M, 0, tsc_29_1 k E M, fun _ => ⟨rfl, by show 97 < 4294967296; decide⟩, hT, hf⟩
      · exact ⟨vI 108, [], [], M, 0, tsc_29_2 k E M, fun _ => ⟨rfl, by show 108 < 4294967296; decide⟩, hT, hf⟩
      · exact ⟨vI 108, [], [], M, 0, tsc_29_3 k E M, fun _ => ⟨rfl, by show 108 < 4294967296; decide⟩, hT, hf⟩
      · exact ⟨vI 101, [], [], M, 0, tsc_29_4 k E M, fun _ => ⟨rfl, by show 101 < 4294967296; decide⟩, hT, hf⟩
      · exact ⟨vI 121, [], [], M, 0, tsc_29_5 k E M, fun _ => ⟨rfl, by show 121 < 4294967296; decide⟩, hT, hf⟩
    · have h4 : i < 6 := h3
      rcases (show i = 0 ∨ i = 1 ∨ i = 2 ∨ i = 3 ∨ i = 4 ∨ i = 5 by omega) with rfl | rfl | rfl | rfl | rfl | rfl
      · exact ⟨vI 116, [], [], M, 0, tsc_30_0 k E M, fun _ => ⟨rfl, by show 116 < 4294967296; decide⟩, hT, hf⟩
      · exact ⟨vI 101, [], [], M, 0, tsc_30_1 k E M, fun _ => ⟨rfl, by show 101 < 4294967296; decide⟩, hT, hf⟩
      · exact ⟨vI 115, [], [], M, 0, tsc_30_2 k E M, fun _ => ⟨rfl, by show 115 < 4294967296; decide⟩, hT, hf⟩
      · exact ⟨vI 116, [], [], M, 0, tsc_30_3 k E M, fun _ => ⟨rfl, by show 116 < 4294967296; decide⟩, hT, hf⟩
      · exact ⟨vI 101, [], [], M, 0, tsc_30_4 k E M, fun _ => ⟨rfl, by show 101 < 4294967296; decide⟩, hT, hf⟩
      · exact ⟨vI 100, [], [], M, 0, tsc_30_5 k E M, fun _ => ⟨rfl, by show 100 < 4294967296; decide⟩, hT, hf⟩
theorem vM_ok {E : Env9} : ∀ D k, D + 5 ≤ k → VCk E (runM k) (vM MT0 D) := by
  intro D
  induction D with
  | zero => intro k _ y as f M r _ _ _ h; exact nomatch (show (none : Option VR) = some r from h)
  | succ D ih =>
    intro k hk y as f M r hw hT hf h
    obtain ⟨k', rfl⟩ : ∃ k', k = k' + 1 := ⟨k - 1, by omega⟩
    have h : (Bool.rec (Bool.rec (match MT0 y with | some md => gd (Nat.ble (flatL as).length md.1) (vFn (vM MT0 D) md.2.1 fuM 0 0 (iniL md.1 as) [] f) | none => none) (vChr as f) (Nat.beq y 339)) (vLen as f) (Nat.beq y 338) : Option VR) = some r := h
    cases h8 : Nat.beq y 338 with
    | true =>
      rw [h8] at h
      rw [Nat.eq_of_beq_eq_true h8]
      obtain ⟨k2, hk2⟩ : ∃ k2, k' + 1 = k2 + 5 := ⟨k' - 4, by omega⟩
      rw [hk2]
      exact vLen_ok hT hf h
    | false =>
      rw [h8] at h
      cases h9 : Nat.beq y 339 with
      | true =>
        rw [h9] at h
        rw [Nat.eq_of_beq_eq_true h9]
        obtain ⟨k2, hk2⟩ : ∃ k2, k' + 1 = k2 + 5 := ⟨k' - 4, by omega⟩
        rw [hk2]
        exact vChr_ok hT hf h
      | false =>
        rw [h9] at h
        have h : (match MT0 y with | some md => gd (Nat.ble (flatL as).length md.1) (vFn (vM MT0 D) md.2.1 fuM 0 0 (iniL md.1 as) [] f) | none => none) = some r := h
        cases hm : MT0 y with
        | none => rw [hm] at h; cases h
        | some md =>
          rw [hm] at h
          obtain ⟨h1, h2⟩ := gd_some (show gd (Nat.ble (flatL as).length md.1) (vFn (vM MT0 D) md.2.1 fuM 0 0 (iniL md.1 as) [] f) = some r from h)
          rw [fuM_is] at h2
          obtain ⟨d, ct, g1, g2⟩ := hMT9 y md hm
          rw [hR9, g2, h1]
          exact vF_ok (ih k' (by omega)) g1 1000000 1000000000000 (by decide) 0 0 _ [] f M r (wl_app (wl_flat hw) (wl_rep _)) vwl_0 hT hf h2
