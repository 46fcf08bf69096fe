/-! the view machine: the memory, calls, blocks, methods -/
theorem vws_set {M : Mem} {f : Vw} {a i x : Nat} {c' : Cel} (hf : Vws M f) (ha : a < 466) (h1 : rNc c' i = x) (h2 : ∀ i', i' ≠ i → rNc c' i' = rNc (tget 9 M a) i') : Vws (tset 9 M a c') (vup f a i x) := by
  intro k hk i'
  show rNc (tget 9 (tset 9 M a c') k) i' = if k = a ∧ i' = i then x else f k i'
  rw [tget_tset 9 M a k c' (show a < 512 by omega) (show k < 512 by omega)]
  by_cases e : k = a
  · rw [if_pos e]
    by_cases e2 : i' = i
    · rw [if_pos ⟨e, e2⟩, e2]; exact h1
    · rw [if_neg (fun q => e2 q.2), h2 i' e2, ← e]; exact hf k hk i'
  · rw [if_neg e, if_neg (fun q => e q.1)]; exact hf k hk i'
theorem shO_some {a ci i : Nat} {t : Nat → Option VR} {r : VR} (h : shO a ci i t = some r) : a < 466 ∧ ∃ q ft, sh0 (kd0 a) = .inl q ∧ q.1 = ci ∧ q.2[i]? = some ft ∧ t ft = some r := by
  obtain ⟨h1, h⟩ := gd_some (show gd (Nat.ble (a + 1) 466) (match sh0 (kd0 a) with | .inl q => gd (Nat.beq q.1 ci) (match yat q.2 i with | some ft => t ft | none => none) | _ => none) = some r from h)
  refine ⟨Nat.le_of_ble_eq_true h1, ?_⟩
  generalize sh0 (kd0 a) = s9 at h ⊢
  rcases s9 with q | q | q | q
  · obtain ⟨h2, h⟩ := gd_some (show gd (Nat.beq q.1 ci) (match yat q.2 i with | some ft => t ft | none => none) = some r from h)
    cases e : yat q.2 i with
    | none => rw [e] at h; cases h
    | some ft =>
      rw [e] at h
      rw [yat_eq] at e
      exact ⟨q, ft, rfl, Nat.eq_of_beq_eq_true h2, e, h⟩
  all_goals cases h
theorem shA_some {a t j : Nat} {k : Option VR} {r : VR} (h : shA a t j k = some r) : a < 466 ∧ ∃ q, sh0 (kd0 a) = .inr (.inl q) ∧ q.1 = t ∧ j < q.2 ∧ k = some r := by
  obtain ⟨h1, h⟩ := gd_some (show gd (Nat.ble (a + 1) 466) (match sh0 (kd0 a) with | .inr (.inl q) => gd (Nat.beq q.1 t) (gd (Nat.ble (j + 1) q.2) k) | _ => none) = some r from h)
  refine ⟨Nat.le_of_ble_eq_true h1, ?_⟩
  generalize sh0 (kd0 a) = s9 at h ⊢
  rcases s9 with q | q | q | q
  · cases h
  · obtain ⟨h2, h⟩ := gd_some (show gd (Nat.beq q.1 t) (gd (Nat.ble (j + 1) q.2) k) = some r from h)
    obtain ⟨h3, h⟩ := gd_some h
    exact ⟨q, rfl, Nat.eq_of_beq_eq_true h2, Nat.le_of_ble_eq_true h3, h⟩
  all_goals cases h
theorem len_at {α : Type} {l : List α} {i : Nat} {x : α} (h : l[i]? = some x) : i < l.length := (List.getElem?_eq_some_iff.mp h).1
theorem arr_ok {a x j : Nat} {q : Nat × Nat} {p : Nat} (hs : sh0 (kd0 a) = .inr (.inl q)) (hN : q.2 ≤ 100000) : cOK kd0 sh0 rt0 bdF a (cI q.1 q.2 (pset p j x) []) := by
  unfold cOK
  rw [hs]
  exact ⟨_, rfl, hN, fun j _ => sg_any _⟩
section VMEM
variable {E : Env9} {K : KK} {kv : VK} {call : Call}
theorem w_getf {ci i : Nat} (hK : VS E K kv) : VS E (op_getf ci i call K) (v_getf ci i kv) := by
  intro z L S f M r hL hS hT hf h
  obtain ⟨a, S', rfl, h⟩ := vR1_some (show vR1 S (fun a S => shO a ci i fun ft => match ft with
    | 0 => kv z L (vI (f a i) :: S) f
    | 1 => kv z L (vJ (f a i) :: S) f
    | _ + 2 => kv z L (vR (rt0 a i) :: S) f) = some r from h)
  obtain ⟨ha, q, ft, hs, rfl, hi, h⟩ := shO_some h
  obtain ⟨fs, e1, e2, e3⟩ := co_obj (bd := bdF) hT ha hs
  have h9 := e3 i ft hi
  have hv : rN1 (nth fs i) = f a i := by
    rw [← hf a ha i]
    show _ = rNc (tget 9 M a) i
    rw [e1]
    rfl
  rw [op_getf_n e1 (by rw [e2]; exact len_at hi)]
  match ft, h9, h with
  | 0, h9, h =>
    obtain ⟨x, x1, x2, -⟩ := h9
    rw [x1] at hv ⊢
    have hv : x = f a i := hv
    rw [hv]
    exact hK z L _ f M r hL (wl_k (v := vI (f a i)) (by show f a i < 4294967296; rw [← hv]; exact x2) (wl_c hS).2) hT hf h
  | 1, h9, h =>
    obtain ⟨x, x1⟩ := h9
    rw [x1] at hv ⊢
    have hv : x = f a i := hv
    rw [hv]
    exact hK z L _ f M r hL (wl_k (v := vJ (f a i)) trivial (wl_c hS).2) hT hf h
  | t + 2, h9, h =>
    rw [h9.1]
    exact hK z L _ f M r hL (wl_k (v := vR (rt0 a i)) trivial (wl_c hS).2) hT hf h
theorem w_putf {g : AV → Bool} {ci i : Nat} (hK : VS E K kv) : VS E (op_putf g ci i call K) (v_putf g ci i kv) := by
  intro z L S f M r hL hS hT hf h
  obtain ⟨a, v, S', rfl, h⟩ := vVR_some (show vVR S (fun a v S => gd (g v) (shO a ci i fun ft => match ft, v with
    | 0, .inl x => kv z L S (vup f a i x)
    | 1, .inr (.inr (.inl x)) => kv z L S (vup f a i x)
    | _, _ => none)) = some r from h)
  obtain ⟨hg, h⟩ := gd_some h
  obtain ⟨ha, q, ft, hs, rfl, hi, h⟩ := shO_some h
  obtain ⟨fs, e1, e2, e3⟩ := co_obj (bd := bdF) hT ha hs
  have hl : i < fs.length := by rw [e2]; exact len_at hi
  rw [op_putf_n hg e1 hl]
  have key : ∀ x : Nat, rN1 v = x → fOK kd0 rt0 bdF a i ft v → kv z L S' (vup f a i x) = some r → VOK E (K E 466 z L S' (tset 9 M a (cO q.1 (nst fs i v)))) r := by
    intro x hx hfo h
    refine hK z L S' _ _ r hL (wl_c (wl_c hS).2).2 ?_ ?_ h
    · refine ti_set hT ha ?_
      unfold cOK
      rw [hs]
      exact ⟨_, rfl, by rw [nst_len]; exact e2, fOK_nst e3 (fun ft' h' => by rw [hi] at h'; cases h'; exact hfo)⟩
    · refine vws_set hf ha ?_ (fun i' h' => ?_)
      · show rN1 (nth (nst fs i v) i) = x
        rw [nth_nst, if_pos ⟨rfl, hl⟩]
        exact hx
      · rw [e1]
        show rN1 (nth (nst fs i v) i') = rN1 (nth fs i')
        rw [nth_nst, if_neg (fun w => h' w.1)]
  match ft, hi, h, key with
  | 0, hi, h, key =>
    rcases v with x | x | x | x | x | x | x | x
    · exact key x rfl ⟨x, rfl, (wl_c hS).1, sg_any x⟩ h
    all_goals cases h
  | 1, hi, h, key =>
    rcases v with x | x | x | x | x | x | x | x
    · cases h
    · cases h
    · exact key x rfl ⟨x, rfl⟩ h
    all_goals cases h
  | t + 2, hi, h, key => cases h
theorem w_iald {t : Nat} (hK : VS E K kv) : VS E (op_iald t call K) (v_iald t kv) := by
  intro z L S f M r hL hS hT hf h
  obtain ⟨a, j, S', rfl, h⟩ := vIR_some (show vIR S (fun a j S => shA a t j (kv z L (vI (f a j) :: S) f)) = some r from h)
  obtain ⟨ha, q, hs, rfl, hj, h⟩ := shA_some h
  obtain ⟨p, e1, e2, -⟩ := co_arr (bd := bdF) hT ha hs
  have hv : pget p j = f a j := by
    rw [← hf a ha j]
    show _ = rNc (tget 9 M a) j
    rw [e1]
    rfl
  rw [op_iald_n e1 hj, hv]
  exact hK z L _ f M r hL (wl_k (v := vI (f a j)) (by show f a j < 4294967296; rw [← hv]; exact pget_lt p j) (wl_c (wl_c hS).2).2) hT hf h
theorem vws_arr {M : Mem} {f : Vw} {a j x t N p : Nat} (hf : Vws M f) (ha : a < 466) (e : tget 9 M a = cI t N p []) (hx : x < 4294967296) : Vws (tset 9 M a (cI t N (pset p j x) [])) (vup f a j x) := by
  refine vws_set hf ha ?_ (fun i' h' => ?_)
  · show pget (pset p j x) j = x
    rw [pget_pset, if_pos rfl, Nat.mod_eq_of_lt hx]
  · rw [e]
    show pget (pset p j x) i' = pget p i'
    rw [pget_pset, if_neg h']
theorem w_iast (hK : VS E K kv) : VS E (op_iast call K) (v_iast kv) := by
  intro z L S f M r hL hS hT hf h
  obtain ⟨a, j, x, S', rfl, h⟩ := vIIR_some (show vIIR S (fun a j x S => shA a 0 j (kv z L S (vup f a j x))) = some r from h)
  obtain ⟨ha, q, hs, hq, hj, h⟩ := shA_some h
  obtain ⟨p, e1, e2, -⟩ := co_arr (bd := bdF) hT ha hs
  have a1 := arr_ok (x := x) (j := j) (p := p) hs e2
  rw [hq] at e1 a1
  rw [op_iast_n e1 hj]
  exact hK z L S' _ _ r hL (wl_c (wl_c (wl_c hS).2).2).2 (ti_set hT ha a1) (vws_arr hf ha e1 (wl_c hS).1) h
theorem w_bast (hK : VS E K kv) : VS E (op_bast call K) (v_bast kv) := by
  intro z L S f M r hL hS hT hf h
  obtain ⟨a, j, x, S', rfl, h⟩ := vIIR_some (show vIIR S (fun a j x S => gd (Nat.ble (a + 1) 466) (match sh0 (kd0 a) with
    | .inr (.inl q) => gd (Nat.ble (j + 1) q.2) (match q.1 with
      | 1 => kv z L S (vup f a j (toN (nI x).toInt8.toInt32))
      | 2 => gd (Nat.ble x 1) (kv z L S (vup f a j x))
      | _ => none)
    | _ => none)) = some r from h)
  obtain ⟨ha, h⟩ := gd_some h
  have ha : a < 466 := Nat.le_of_ble_eq_true ha
  cases hs : sh0 (kd0 a) with
  | inl q => rw [hs] at h; cases h
  | inr s9 =>
    cases s9 with
    | inr s9 => rw [hs] at h; cases h
    | inl q =>
      rw [hs] at h
      obtain ⟨hj, h⟩ := gd_some (show gd (Nat.ble (j + 1) q.2) (match q.1 with
        | 1 => kv z L S' (vup f a j (toN (nI x).toInt8.toInt32))
        | 2 => gd (Nat.ble x 1) (kv z L S' (vup f a j x))
        | _ => none) = some r from h)
      have hj : j < q.2 := Nat.le_of_ble_eq_true hj
      obtain ⟨p, e1, e2, -⟩ := co_arr (bd := bdF) hT ha hs
      obtain ⟨t, N⟩ := q
      match t, hs, h, e1 with
      | 0, hs, h, e1 => cases h
      | 1, hs, h, e1 =>
        rw [op_bast1_n e1 hj]
        exact hK z L S' _ _ r hL (wl_c (wl_c (wl_c hS).2).2).2 (ti_set hT ha (arr_ok (q := (1, N)) hs e2)) (vws_arr hf ha e1 (toN_lt _)) h
      | 2, hs, h, e1 =>
        obtain ⟨h1, h⟩ := gd_some (show gd (Nat.ble x 1) (kv z L S' (vup f a j x)) = some r from h)
        rw [op_bast2_n e1 hj (Nat.le_of_ble_eq_true h1)]
        exact hK z L S' _ _ r hL (wl_c (wl_c (wl_c hS).2).2).2 (ti_set hT ha (arr_ok (q := (2, N)) hs e2)) (vws_arr hf ha e1 (wl_c hS).1) h
      | t + 3, hs, h, e1 => cases h
theorem w_aald (hK : VS E K kv) : VS E (op_aald call K) (v_aald kv) := by
  intro z L S f M r hL hS hT hf h
  obtain ⟨a, j, S', rfl, h⟩ := vIR_some (show vIR S (fun a j S => gd (Nat.ble (a + 1) 466) (match sh0 (kd0 a) with | .inr (.inr (.inl q)) => gd (Nat.ble (j + 1) q.2.1) (kv z L (vR (rt0 a j) :: S) f) | _ => none)) = some r from h)
  obtain ⟨ha, h⟩ := gd_some h
  have ha : a < 466 := Nat.le_of_ble_eq_true ha
  cases hs : sh0 (kd0 a) with
  | inl q => rw [hs] at h; cases h
  | inr s9 =>
    cases s9 with
    | inl s9 => rw [hs] at h; cases h
    | inr s9 =>
      cases s9 with
      | inr s9 => rw [hs] at h; cases h
      | inl q =>
        rw [hs] at h
        obtain ⟨hj, h⟩ := gd_some (show gd (Nat.ble (j + 1) q.2.1) (kv z L (vR (rt0 a j) :: S') f) = some r from h)
        have hj : j < q.2.1 := Nat.le_of_ble_eq_true hj
        obtain ⟨xs, e1, e2, e3⟩ := co_ref (bd := bdF) hT ha hs
        rw [op_aald_n e1 (by rw [e2]; exact hj), (e3 j hj).1]
        exact hK z L _ f M r hL (wl_k (v := vR (rt0 a j)) trivial (wl_c (wl_c hS).2).2) hT hf h
theorem w_lald (hK : VS E K kv) : VS E (op_lald call K) (v_lald kv) := by
  intro z L S f M r hL hS hT hf h
  obtain ⟨a, j, S', rfl, h⟩ := vIR_some (show vIR S (fun a j S => gd (Nat.ble (a + 1) 466) (match sh0 (kd0 a) with | .inr (.inr (.inr N)) => gd (Nat.ble (j + 1) N) (kv z L (vJ (f a j) :: S) f) | _ => none)) = some r from h)
  obtain ⟨ha, h⟩ := gd_some h
  have ha : a < 466 := Nat.le_of_ble_eq_true ha
  cases hs : sh0 (kd0 a) with
  | inl q => rw [hs] at h; cases h
  | inr s9 =>
    cases s9 with
    | inl s9 => rw [hs] at h; cases h
    | inr s9 =>
      cases s9 with
      | inl s9 => rw [hs] at h; cases h
      | inr N =>
        rw [hs] at h
        obtain ⟨hj, h⟩ := gd_some (show gd (Nat.ble (j + 1) N) (kv z L (vJ (f a j) :: S') f) = some r from h)
        have hj : j < N := Nat.le_of_ble_eq_true hj
        obtain ⟨xs, e1, e2, e3⟩ := co_lng (bd := bdF) hT ha hs
        obtain ⟨y, hy⟩ := e3 j hj
        have hv : y = f a j := by
          rw [← hf a ha j]
          show y = rNc (tget 9 M a) j
          rw [e1]
          show y = rN1 (nth xs j)
          rw [hy]
          rfl
        rw [op_lald_n e1 (by rw [e2]; exact hj), hy, hv]
        exact hK z L _ f M r hL (wl_k (v := vJ (f a j)) trivial (wl_c (wl_c hS).2).2) hT hf h
theorem w_last (hK : VS E K kv) : VS E (op_last call K) (v_last kv) := by
  intro z L S f M r hL hS hT hf h
  obtain ⟨a, j, x, S', rfl, h⟩ := vJIR_some (show vJIR S (fun a j x S => gd (Nat.ble (a + 1) 466) (match sh0 (kd0 a) with | .inr (.inr (.inr N)) => gd (Nat.ble (j + 1) N) (kv z L S (vup f a j x)) | _ => none)) = some r from h)
  obtain ⟨ha, h⟩ := gd_some h
  have ha : a < 466 := Nat.le_of_ble_eq_true ha
  cases hs : sh0 (kd0 a) with
  | inl q => rw [hs] at h; cases h
  | inr s9 =>
    cases s9 with
    | inl s9 => rw [hs] at h; cases h
    | inr s9 =>
      cases s9 with
      | inl s9 => rw [hs] at h; cases h
      | inr N =>
        rw [hs] at h
        obtain ⟨hj, h⟩ := gd_some (show gd (Nat.ble (j + 1) N) (kv z L S' (vup f a j x)) = some r from h)
        have hj : j < N := Nat.le_of_ble_eq_true hj
        obtain ⟨xs, e1, e2, e3⟩ := co_lng (bd := bdF) hT ha hs
        have hl : j < xs.length := by rw [e2]; exact hj
        rw [op_last_n e1 hl]
        refine hK z L S' _ _ r hL (wl_c (wl_c (wl_c hS).2).2).2 (ti_set hT ha ?_) (vws_set hf ha ?_ (fun i' h' => ?_)) h
        · unfold cOK
          rw [hs]
          refine ⟨_, rfl, by rw [nst_len]; exact e2, fun j' hj' => ?_⟩
          rw [nth_nst]
          by_cases e : j' = j ∧ j < xs.length
          · rw [if_pos e]; exact ⟨x, rfl⟩
          · rw [if_neg e]; exact e3 j' hj'
        · show rN1 (nth (nst xs j (vJ x)) j) = x
          rw [nth_nst, if_pos ⟨rfl, hl⟩]
          rfl
        · rw [e1]
          show rN1 (nth (nst xs j (vJ x)) i') = rN1 (nth xs i')
          rw [nth_nst, if_neg (fun w => h' w.1)]
theorem w_alen (hK : VS E K kv) : VS E (op_alen call K) (v_alen kv) := by
  intro z L S f M r hL hS hT hf h
  obtain ⟨a, S', rfl, h⟩ := vR1_some (show vR1 S (fun a S => gd (Nat.ble (a + 1) 466) (match sh0 (kd0 a) with | .inr (.inl q) => gd (Nat.ble q.2 100000) (kv z L (vI q.2 :: S) f) | _ => none)) = some r from h)
  obtain ⟨ha, h⟩ := gd_some h
  have ha : a < 466 := Nat.le_of_ble_eq_true ha
  cases hs : sh0 (kd0 a) with
  | inl q => rw [hs] at h; cases h
  | inr s9 =>
    cases s9 with
    | inr s9 => rw [hs] at h; cases h
    | inl q =>
      rw [hs] at h
      obtain ⟨hn, h⟩ := gd_some (show gd (Nat.ble q.2 100000) (kv z L (vI q.2 :: S') f) = some r from h)
      obtain ⟨p, e1, e2, -⟩ := co_arr (bd := bdF) hT ha hs
      show VOK E (match tget 9 M a with
        | .inr (.inl q) => K E 466 z L (vI q.2.1 :: S') M
        | _ => none) r
      rw [e1]
      exact hK z L _ f M r hL (wl_k (v := vI q.2) (by show q.2 < 4294967296; omega) (wl_c hS).2) hT hf h
theorem w_copy (hK : VS E K kv) : VS E (op_copy call K) (v_copy kv) := by
  intro z L S f M r hL hS hT hf h
  obtain ⟨b, dp, N, S1, rfl, h9⟩ := vIIR_some (show vIIR S (fun b dp N S => vIR S fun a sp S => gd (Nat.ble 1 N) (shA a 0 (sp + (N - 1)) (shA b 0 (dp + (N - 1)) (gd (Nat.ble (catS S) 8) (gd (Nat.ble N 100000) (kv z L S (vcp f a b sp dp N))))))) = some r from h)
  clear h
  obtain ⟨a, sp, S2, rfl, h8⟩ := vIR_some h9
  clear h9
  obtain ⟨h1, h⟩ := gd_some h8
  obtain ⟨ha, qa, sa, ta, ja, h⟩ := shA_some h
  obtain ⟨hb, qb, sb, tb, jb, h⟩ := shA_some h
  obtain ⟨h2, h⟩ := gd_some h
  obtain ⟨h3, h⟩ := gd_some h
  have h1 := Nat.le_of_ble_eq_true h1
  obtain ⟨pa, ea, -, -⟩ := co_arr (bd := bdF) hT ha sa
  obtain ⟨pb, eb, eb2, -⟩ := co_arr (bd := bdF) hT hb sb
  rw [ta] at ea
  rw [tb] at eb
  rw [op_copy_n ea eb (by omega) (by omega) (Nat.le_of_ble_eq_true h2) (Nat.le_of_ble_eq_true h3)]
  refine hK z L S2 _ _ r hL (wl_c (wl_c (wl_c (wl_c (wl_c hS).2).2).2).2).2 (ti_set hT hb ?_) ?_ h
  · unfold cOK
    rw [sb]
    exact ⟨pcpy pa pb sp dp N, by rw [tb], eb2, fun j _ => sg_any _⟩
  · intro k hk i'
    show rNc (tget 9 (tset 9 M b (cI 0 qb.2 (pcpy pa pb sp dp N) [])) k) i' = if k = b ∧ dp ≤ i' ∧ i' < dp + N then f a (sp + (i' - dp)) else f k i'
    rw [tget_tset 9 M b k _ (show b < 512 by omega) (show k < 512 by omega)]
    by_cases e : k = b
    · rw [if_pos e]
      show pget (pcpy pa pb sp dp N) i' = _
      rw [pget_pcpy]
      by_cases q : dp ≤ i' ∧ i' < dp + N
      · rw [if_pos q, if_pos ⟨e, q⟩, ← hf a ha]
        show _ = rNc (tget 9 M a) _
        rw [ea]
        rfl
      · rw [if_neg q, if_neg (fun w => q w.2), ← hf k hk, e]
        show _ = rNc (tget 9 M b) i'
        rw [eb]
        rfl
    · rw [if_neg e, if_neg (fun w => e w.1)]
      exact hf k hk i'
end VMEM
