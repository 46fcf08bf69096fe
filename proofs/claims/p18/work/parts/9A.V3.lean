/-! what the view machine gives, the machine gives: its steps -/
theorem gB9_lt (a x y : Nat) : gB9 a x y < 4294967296 := by
  match a with
  | 0 => exact Nat.mod_lt _ (by decide)
  | 1 => exact toN_lt _
  | 2 => exact toN_lt _
  | 3 => exact toN_lt _
  | 4 => exact toN_lt _
  | 5 => exact toN_lt _
  | a + 6 => exact toN_lt _
theorem gU9_lt (a x : Nat) : gU9 a x < 4294967296 := by
  match a with
  | 0 => exact toN_lt _
  | 1 => exact toN_lt _
  | a + 2 => exact toN_lt _
section VSTEP
variable {E : Env9} {K : KK} {kv : VK} {call : Call}
theorem w_push {v : AV} (hv : wlt v) (hK : VS E K kv) : VS E (op_push v call K) (v_push v kv) := fun z L S f M r hL hS hT hf h => hK z L (v :: S) f M r hL (wl_k hv hS) hT hf h
theorem w_ld {g : AV → Bool} {i : Nat} (hK : VS E K kv) : VS E (op_ld g i call K) (v_ld g i kv) := by
  intro z L S f M r hL hS hT hf h
  obtain ⟨h1, h2⟩ := gd_some (show gd (g (nth L i)) (kv z L (nth L i :: S) f) = some r from h)
  show VOK E (gd (g (nth L i)) (K E 466 z L (nth L i :: S) M)) r
  rw [h1]
  exact hK z L _ f M r hL (wl_k (wl_nth hL i) hS) hT hf h2
theorem w_st {g : AV → Bool} {i : Nat} (hK : VS E K kv) : VS E (op_st g i call K) (v_st g i kv) := by
  intro z L S f M r hL hS hT hf h
  rcases S with _ | ⟨v, S⟩
  · cases h
  obtain ⟨h1, h⟩ := gd_some (show gd (g v) (gd (lk2 L i) (kv z (nst L i v) S f)) = some r from h)
  obtain ⟨h2, h3⟩ := gd_some h
  show VOK E (gd (g v) (gd (lk2 L i) (K E 466 z (nst L i v) S M))) r
  rw [h1, h2]
  exact hK z _ S f M r (wl_nst (wl_c hS).1 hL i) (wl_c hS).2 hT hf h3
theorem w_st2 {g : AV → Bool} {i : Nat} (hK : VS E K kv) : VS E (op_st2 g i call K) (v_st2 g i kv) := by
  intro z L S f M r hL hS hT hf h
  rcases S with _ | ⟨v, S⟩
  · cases h
  obtain ⟨h1, h⟩ := gd_some (show gd (g v) (gd (lk2 L i) (kv z (nst (nst L i v) (i + 1) (vW 3)) S f)) = some r from h)
  obtain ⟨h2, h3⟩ := gd_some h
  show VOK E (gd (g v) (gd (lk2 L i) (K E 466 z (nst (nst L i v) (i + 1) (vW 3)) S M))) r
  rw [h1, h2]
  exact hK z _ S f M r (wl_nst (v := vW 3) trivial (wl_nst (wl_c hS).1 hL i) (i + 1)) (wl_c hS).2 hT hf h3
theorem w_iinc {i c : Nat} (hK : VS E K kv) : VS E (op_iinc i c call K) (v_iinc i c kv) := by
  intro z L S f M r hL hS hT hf h
  have h : (match nth L i with | .inl x => gd (lk2 L i) (kv z (nst L i (vI ((x + c) % 4294967296))) S f) | _ => none) = some r := h
  cases e : nth L i with
  | inr v => rw [e] at h; cases h
  | inl x =>
    rw [e] at h
    obtain ⟨h1, h2⟩ := gd_some (show gd (lk2 L i) (kv z (nst L i (vI ((x + c) % 4294967296))) S f) = some r from h)
    have e2 : op_iinc i c call K E 466 z L S M = K E 466 z (nst L i (vI ((x + c) % 4294967296))) S M := by
      show gd (isI (nth L i)) (gd (lk2 L i) (addK (nth L i) (vI c) fun r => K E 466 z (nst L i r) S M)) = _
      rw [e, h1]
      show fN ((x + c) % 4294967296) (fun r => K E 466 z (nst L i (vI r)) S M) = _
      rw [fN_eq]
    rw [e2]
    exact hK z _ S f M r (wl_nst (v := vI ((x + c) % 4294967296)) (Nat.mod_lt _ (by omega)) hL i) hS hT hf h2
theorem w_2 {g : Nat → Nat → Nat} {op : Op1} (hop : ∀ (z : Nat) (L S : List AV) (M : Mem) (x y : Nat), op call K E 466 z L (vI y :: vI x :: S) M = K E 466 z L (vI (g x y) :: S) M) (hg : ∀ x y, g x y < 4294967296) (hK : VS E K kv) : VS E (op call K) (v_2 g kv) := by
  intro z L S f M r hL hS hT hf h
  obtain ⟨x, y, S', rfl, h1⟩ := vS2_some (show vS2 S (fun x y S => kv z L (vI (g x y) :: S) f) = some r from h)
  rw [hop]
  exact hK z L _ f M r hL (wl_k (v := vI (g x y)) (hg x y) (wl_c (wl_c hS).2).2) hT hf h1
theorem w_1 {g : Nat → Nat} (hg : ∀ x, g x < 4294967296) (hK : VS E K kv) : VS E (op_un g call K) (v_1 g kv) := by
  intro z L S f M r hL hS hT hf h
  obtain ⟨x, S', rfl, h1⟩ := vS1_some (show vS1 S (fun x S => kv z L (vI (g x) :: S) f) = some r from h)
  show VOK E (fN (g x) (fun r => K E 466 z L (vI r :: S') M)) r
  rw [fN_eq]
  exact hK z L _ f M r hL (wl_k (v := vI (g x)) (hg x) (wl_c hS).2) hT hf h1
theorem w_dup (hK : VS E K kv) : VS E (op_dup call K) (v_dup kv) := by
  intro z L S f M r hL hS hT hf h
  rcases S with _ | ⟨v, S⟩
  · cases h
  obtain ⟨h1, h2⟩ := gd_some (show gd (Bool.rec true false (isC2 v)) (kv z L (v :: v :: S) f) = some r from h)
  show VOK E (gd (Bool.rec true false (isC2 v)) (K E 466 z L (v :: v :: S) M)) r
  rw [h1]
  exact hK z L _ f M r hL (wl_k (wl_c hS).1 hS) hT hf h2
theorem w_dup2 (hK : VS E K kv) : VS E (op_dup2 call K) (v_dup2 kv) := by
  intro z L S f M r hL hS hT hf h
  rcases S with _ | ⟨v, S⟩
  · cases h
  rcases S with _ | ⟨w, S⟩
  · cases h
  obtain ⟨h1, h⟩ := gd_some (show gd (Bool.rec true false (isC2 v)) (gd (Bool.rec true false (isC2 w)) (kv z L (v :: w :: v :: w :: S) f)) = some r from h)
  obtain ⟨h2, h3⟩ := gd_some h
  show VOK E (gd (Bool.rec true false (isC2 v)) (gd (Bool.rec true false (isC2 w)) (K E 466 z L (v :: w :: v :: w :: S) M))) r
  rw [h1, h2]
  exact hK z L _ f M r hL (wl_k (wl_c hS).1 (wl_k (wl_c (wl_c hS).2).1 hS)) hT hf h3
theorem w_pop (hK : VS E K kv) : VS E (op_pop call K) (v_pop kv) := by
  intro z L S f M r hL hS hT hf h
  rcases S with _ | ⟨v, S⟩
  · cases h
  obtain ⟨h1, h2⟩ := gd_some (show gd (Bool.rec true false (isC2 v)) (kv z L S f) = some r from h)
  show VOK E (gd (Bool.rec true false (isC2 v)) (K E 466 z L S M)) r
  rw [h1]
  exact hK z L _ f M r hL (wl_c hS).2 hT hf h2
theorem w_irem (hK : VS E K kv) : VS E (op_irem call K) (v_irem kv) := by
  intro z L S f M r hL hS hT hf h
  obtain ⟨x, y, S', rfl, h1⟩ := vS2_some (show vS2 S (fun x y S => gd (Nat.ble 1 (y % 4294967296)) (kv z L (vI (toN (nI x - nI x / nI y * nI y)) :: S) f)) = some r from h)
  obtain ⟨h2, h3⟩ := gd_some h1
  rw [op_irem_n (Nat.le_of_ble_eq_true h2)]
  exact hK z L _ f M r hL (wl_k (v := vI (toN (nI x - nI x / nI y * nI y))) (toN_lt _) (wl_c (wl_c hS).2).2) hT hf h3
theorem w_i2l (hK : VS E K kv) : VS E (op_i2l call K) (v_i2l kv) := by
  intro z L S f M r hL hS hT hf h
  obtain ⟨x, S', rfl, h1⟩ := vS1_some (show vS1 S (fun x S => kv z L (vJ (toNL (nI x).toInt64) :: S) f) = some r from h)
  show VOK E (fN (toNL (nI x).toInt64) (fun r => K E 466 z L (vJ r :: S') M)) r
  rw [fN_eq]
  exact hK z L _ f M r hL (wl_k (v := vJ (toNL (nI x).toInt64)) trivial (wl_c hS).2) hT hf h1
theorem w_l2i (hK : VS E K kv) : VS E (op_l2i call K) (v_l2i kv) := by
  intro z L S f M r hL hS hT hf h
  obtain ⟨x, S', rfl, h1⟩ := vJ1_some (show vJ1 S (fun x S => kv z L (vI (toN (lN x).toInt32) :: S) f) = some r from h)
  show VOK E (fN (toN (lN x).toInt32) (fun r => K E 466 z L (vI r :: S') M)) r
  rw [fN_eq]
  exact hK z L _ f M r hL (wl_k (v := vI (toN (lN x).toInt32)) (toN_lt _) (wl_c hS).2) hT hf h1
theorem w_lb {g : Nat → Nat → Nat} (hK : VS E K kv) : VS E (op_lbin g call K) (v_lb g kv) := by
  intro z L S f M r hL hS hT hf h
  obtain ⟨x, y, S', rfl, h1⟩ := vJ2_some (show vJ2 S (fun x y S => kv z L (vJ (g x y) :: S) f) = some r from h)
  show VOK E (fN (g x y) (fun r => K E 466 z L (vJ r :: S') M)) r
  rw [fN_eq]
  exact hK z L _ f M r hL (wl_k (v := vJ (g x y)) trivial (wl_c (wl_c hS).2).2) hT hf h1
theorem w_lsh {g : Nat → Nat → Nat} (hK : VS E K kv) : VS E (op_lsh g call K) (v_lsh g kv) := by
  intro z L S f M r hL hS hT hf h
  obtain ⟨x, y, S', rfl, h1⟩ := vIJ_some (show vIJ S (fun x y S => kv z L (vJ (g x y) :: S) f) = some r from h)
  show VOK E (fN (g x y) (fun r => K E 466 z L (vJ r :: S') M)) r
  rw [fN_eq]
  exact hK z L _ f M r hL (wl_k (v := vJ (g x y)) trivial (wl_c (wl_c hS).2).2) hT hf h1
theorem w_lcmp (hK : VS E K kv) : VS E (op_lcmp call K) (v_lcmp kv) := by
  intro z L S f M r hL hS hT hf h
  obtain ⟨x, y, S', rfl, h1⟩ := vJ2_some (show vJ2 S (fun x y S => kv z L (vI (toN (lg_cmp (lN x) (lN y))) :: S) f) = some r from h)
  show VOK E (fN (toN (lg_cmp (lN x) (lN y))) (fun r => K E 466 z L (vI r :: S') M)) r
  rw [fN_eq]
  exact hK z L _ f M r hL (wl_k (v := vI (toN (lg_cmp (lN x) (lN y)))) (toN_lt _) (wl_c (wl_c hS).2).2) hT hf h1
end VSTEP
