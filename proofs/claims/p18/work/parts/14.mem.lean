/-! fields, rows, new cells -/
section OPM
variable {p : Program} {l : Launch} {e : Env} {R : Room} {s : State} {m : MethodId} {args : Array Value} {below : List Frame} {meth : Method} {c : Code} {Q : State → Prop} {D : va_G} {G : Gam} {A : Nat → Prop} {ρ0 : List Nat} {nL : Nat} {Pe : Res → Prop} {cc : ByteArray} {own : String} {Ts : List Cond} {pc : Nat} {K : KK}
theorem mem_at {ρ : List Nat} {n : Nat} {M : Mem} {H : Heap} (hM : memR D s G A ρ n M H) {k q : Nat} (hk : ρ[k]? = some q) :
    ∃ (ws : va_W) (e : va_E), ws[k]? = some (q, e) ∧ celR s G ρ (tget 9 M k) e ∧ va_P D vwCl ws H ∧ va_D A ws ∧
      (∀ (H1 : Heap) (c' : Cel) (e' : va_E), va_P D vwCl (ws.set k (q, e')) H1 → va_D A (ws.set k (q, e')) → celR s G ρ c' e' → memR D s G A ρ n (tset 9 M k c') H1) ∧
      (∀ (k2 q2 : Nat), ρ[k2]? = some q2 → ∃ e2, ws[k2]? = some (q2, e2) ∧ celR s G ρ (tget 9 M k2) e2) := by
  obtain ⟨ws, w1, w2, w3, w4, w5, w6⟩ := hM
  have at' : ∀ (k2 q2 : Nat), ρ[k2]? = some q2 → ∃ e2, ws[k2]? = some (q2, e2) ∧ celR s G ρ (tget 9 M k2) e2 := by
    intro k2 q2 h2
    have hl := (List.getElem?_eq_some_iff.mp h2).1
    have hl2 : k2 < ws.length := by rw [w1, ← w2]; exact hl
    obtain ⟨g1, g2⟩ := w4 k2 ws[k2] (List.getElem?_eq_getElem hl2)
    rw [h2] at g1
    refine ⟨ws[k2].2, ?_, g2⟩
    rw [List.getElem?_eq_getElem hl2, Option.some.inj g1]
  obtain ⟨e0, h1, h2⟩ := at' k q hk
  have hl := (List.getElem?_eq_some_iff.mp h1).1
  refine ⟨ws, e0, h1, h2, w5, w6, fun H1 c' e' g1 g2 g3 => ⟨ws.set k (q, e'), by rw [List.length_set]; exact w1, w2, w3, fun j x hj => ?_, g1, g2⟩, at'⟩
  have hj2 : j < ws.length := by
    have := (List.getElem?_eq_some_iff.mp hj).1
    rwa [List.length_set] at this
  rw [tget_tset 9 M k j c' (by omega) (by omega)]
  rw [List.getElem?_set] at hj
  by_cases hkj : k = j
  · subst hkj
    rw [if_pos rfl, if_pos hl] at hj
    cases hj
    rw [if_pos rfl]
    exact ⟨hk, g3⟩
  · rw [if_neg hkj] at hj
    rw [if_neg (Ne.symm hkj)]
    exact w4 j x hj
theorem K1 (hK : va_K D vwCl [] s) {cA : ClassId} {ty : FieldType} (h : tyK s cA ty) : va_K D vwCl [(cA, ty)] s := by
  refine ⟨hK.1, fun k q hk => ?_⟩
  cases k with
  | zero => cases hk; exact h
  | succ k => simp at hk
theorem K2 (hK : va_K D vwCl [] s) {cA cB : ClassId} {ty ty' : FieldType} (h : tyK s cA ty) (h' : tyK s cB ty') : va_K D vwCl [(cA, ty), (cB, ty')] s := by
  refine ⟨hK.1, fun k q hk => ?_⟩
  rcases k with _ | _ | k
  · cases hk; exact h
  · cases hk; exact h'
  · simp at hk
theorem clamp_nI {j N : Nat} (h : j < N) (hN : N ≤ 100000) : (nI j).toNatClampNeg = j := nI_clamp (by omega)
theorem mem_new {ρ : List Nat} {n : Nat} {M : Mem} {H1 : Heap} {q : Nat} {e' : va_E} {c' : Cel} {ws : va_W} (w1 : ws.length = n) (w2 : ρ.length = n) (hn : n + 1 ≤ 512) (w4 : ∀ (k : Nat) (q : Nat × va_E), ws[k]? = some q → ρ[k]? = some q.1 ∧ celR s G ρ (tget 9 M k) q.2)
    (hP : va_P D vwCl (ws ++ [(q, e')]) H1) (hD : va_D A (ws ++ [(q, e')])) (hc : celR s G (ρ ++ [q]) c' e') : memR D s G A (ρ ++ [q]) (n + 1) (tset 9 M n c') H1 := by
  refine ⟨ws ++ [(q, e')], by simp [w1], by simp [w2], hn, fun k x hk => ?_, hP, hD⟩
  have hk2 : k < n + 1 := by
    have := (List.getElem?_eq_some_iff.mp hk).1
    simpa [w1] using this
  rw [tget_tset 9 M n k c' (by omega) (by omega)]
  by_cases hkn : k = n
  · subst hkn
    rw [if_pos rfl]
    rw [List.getElem?_append_right (by omega), w1] at hk
    simp at hk
    subst hk
    exact ⟨by rw [List.getElem?_append_right (by omega), w2]; simp, hc⟩
  · rw [if_neg hkn]
    rw [List.getElem?_append_left (by omega)] at hk
    obtain ⟨g1, g2⟩ := w4 k x hk
    exact ⟨by rw [List.getElem?_append_left (by omega)]; exact g1, celR_mono (List.prefix_append _ _) g2⟩
theorem ok_getf (C : Cx cc own Ts p l s m args meth c D G A nL) {call : Call} {index ci i N : Nat} {Cn : String} {T : u_T} (hc : vwCl[ci]? = some (Cn, T, N)) (hin : ∀ w ∈ u_ws Cn T N, w ∈ Ts) (hi : i < N) (hlink : Cond.fieldLink own index (T i).1 (T i).2.1 (T i).2.2.1 ∈ Ts) (hdg : decode cc pc = .ok (.getfield index, 3)) (hK : KOK p l e R s m args below meth c Q D G A ρ0 nL Pe (pc + 3) K) : KOK p l e R s m args below meth c Q D G A ρ0 nL Pe pc (op_getf ci i call K) := by
  intro E n z L S M rs h he ρ H locs ls st h0 hE hM hS hL hs
  rcases S with _ | ⟨a, S⟩
  · cases h
  obtain ⟨u, st, rfl, hu, hs'⟩ := czs_cons hs
  rcases a with x | a | x | o | j | w | k | k
  · cases h
  · obtain ⟨q, hq, rfl⟩ := hu
    obtain ⟨ws, e0, g1, g2, g3, g4, -, -⟩ := mem_at hM hq
    unfold op_getf at h
    cases hcel : tget 9 M a with
    | inl o =>
      rw [hcel] at g2
      simp only [hcel] at h
      obtain ⟨h1, h2⟩ := gd_some h
      obtain ⟨h3, h4⟩ := gd_some h2
      obtain ⟨vs, rfl, hvs⟩ := g2
      rw [Nat.eq_of_beq_eq_true h1] at g1
      obtain ⟨v, hv1, hv2⟩ := czs_get hvs (k := i) (Nat.le_of_ble_eq_true h3)
      exact va_get C.1 C.2.1 C.2.2.2.2.1 hin C.2.2.2.1 C.2.2.2.2.2.1 g3 a g1 hc i hi (C.2.2.2.2.1 _ hlink) (fun _ h => h) hv1 hdg (hK E n z L _ M rs h4 he ρ H locs ls (v :: st) h0 hE hM hS hL ⟨hv2, hs'⟩)
    | inr o => simp only [hcel] at h; cases h
  all_goals cases h
theorem ok_putf (C : Cx cc own Ts p l s m args meth c D G A nL) {call : Call} {f : AV → Bool} {index ci i N : Nat} {Cn : String} {T : u_T} {ty0 : Nat → FieldType} {ty : FieldType} (hc : vwCl[ci]? = some (Cn, T, N)) (hin : ∀ w ∈ u_ws Cn T N, w ∈ Ts) (hty : ∀ k, k < N → parseFieldDescriptor (T k).2.2.1 = some (ty0 k)) (hnm : ∀ a, a < N → ∀ b, b < N → a ≠ b → (T a).2.1 ≠ (T b).2.1) (hi : i < N) (hlink : Cond.fieldLink own index (T i).1 (T i).2.1 (T i).2.2.1 ∈ Ts)
    (hfin : (T i).2.2.2 = false ∨ ((T i).2.2.2 = true ∧ meth.name = "<init>" ∧ (T i).1 = own)) (hd : parseFieldDescriptor (T i).2.2.1 = some ty) (hval : ∀ {ρ a v}, cz G ρ a v → f a = true → narrow ty v = v ∧ fits ty v = true) (hdg : decode cc pc = .ok (.putfield index, 3)) (hK : KOK p l e R s m args below meth c Q D G A ρ0 nL Pe (pc + 3) K) : KOK p l e R s m args below meth c Q D G A ρ0 nL Pe pc (op_putf f ci i call K) := by
  intro E n z L S M rs h he ρ H locs ls st h0 hE hM hS hL hs
  rcases S with _ | ⟨b, _ | ⟨a, S⟩⟩
  · cases h
  · cases h
  obtain ⟨v, st1, rfl, hv, hs1⟩ := czs_cons hs
  obtain ⟨u, st, rfl, hu, hs'⟩ := czs_cons hs1
  rcases a with x | a | x | o | j | w | k | k
  · cases h
  · obtain ⟨q, hq, rfl⟩ := hu
    obtain ⟨ws, e0, g1, g2, g3, g4, g5, -⟩ := mem_at hM hq
    unfold op_putf at h
    obtain ⟨h0', h⟩ := gd_some h
    cases hcel : tget 9 M a with
    | inl o =>
      rw [hcel] at g2
      simp only [hcel] at h
      obtain ⟨h1, h2⟩ := gd_some h
      obtain ⟨h3, h4⟩ := gd_some h2
      obtain ⟨vs, rfl, hvs⟩ := g2
      have e1 := Nat.eq_of_beq_eq_true h1
      rw [e1] at g1 h4
      obtain ⟨n1, n2⟩ := hval hv h0'
      have hlen : i < vs.length := by rw [← czs_len hvs]; exact Nat.le_of_ble_eq_true h3
      have kk : ∀ (H1 : Heap) (locs1 : List Loc), va_P D vwCl (ws.set a (q, .inr (ci, vs.set i v))) H1 → va_D A (ws.set a (q, .inr (ci, vs.set i v))) → va_S A s.heap H1 locs1 → W p l e R s m args below meth c H1 locs1 z z Q (F0 m (pc + 3) ls st) :=
        fun H1 locs1 k1 k2 k3 => hK E n z L S _ rs h4 he ρ H1 locs1 ls st h0 hE (g5 H1 _ _ k1 k2 ⟨_, rfl, czs_set hv hvs i⟩) k3 hL hs'
      rcases hfin with hfin | ⟨hfin, hme, hdc⟩
      · exact va_put C.1 C.2.1 C.2.2.2.2.1 hin ty0 hty hnm C.2.2.2.1 C.2.2.2.2.2.1 g3 g4 hS a g1 hc i hi (C.2.2.2.2.1 _ hlink) (fun _ h => h) hfin hd n1 n2 hlen hdg kk
      · exact va_putF C.1 C.2.1 C.2.2.2.2.1 hin ty0 hty hnm C.2.2.2.1 C.2.2.2.2.2.1 g3 g4 hS a g1 hc i hi (C.2.2.2.2.1 _ hlink) (fun _ h => h) hfin hme hdc hd n1 n2 hlen hdg kk
    | inr o => simp only [hcel] at h; cases h
  all_goals cases h
theorem val_I {ρ : List Nat} {a : AV} {v : Value} (hv : cz G ρ a v) (h : isI a = true) : narrow .int v = v ∧ fits .int v = true := by
  obtain ⟨x, rfl⟩ := cz_isI hv h
  exact ⟨rfl, rfl⟩
theorem val_J {ρ : List Nat} {a : AV} {v : Value} (hv : cz G ρ a v) (h : isJ a = true) : narrow .long v = v ∧ fits .long v = true := by
  obtain ⟨x, rfl⟩ := cz_isJ hv h
  exact ⟨rfl, rfl⟩
theorem val_Z {ρ : List Nat} {a : AV} {v : Value} (hv : cz G ρ a v) (h : isZ a = true) : narrow .boolean v = v ∧ fits .boolean v = true := by
  obtain ⟨k, hk, -, rfl⟩ := cz_isZ hv h
  rcases (show k = 0 ∨ k = 1 by omega) with rfl | rfl <;> exact ⟨by decide +kernel, by decide +kernel⟩
theorem val_O {cn : String} {ρ : List Nat} {a : AV} {v : Value} (hv : cz G ρ a v) (h : isA a = true) : narrow (.object cn) v = v ∧ fits (.object cn) v = true := by
  rcases cz_isA hv h with rfl | ⟨q, rfl⟩ <;> exact ⟨rfl, rfl⟩
theorem val_A {ty : FieldType} {ρ : List Nat} {a : AV} {v : Value} (hv : cz G ρ a v) (h : isA a = true) : narrow (.array ty) v = v ∧ fits (.array ty) v = true := by
  rcases cz_isA hv h with rfl | ⟨q, rfl⟩ <;> exact ⟨rfl, rfl⟩
theorem ok_iald (C : Cx cc own Ts p l s m args meth c D G A nL) {call : Call} (hdg : decode cc pc = .ok (.iaload, 1)) (hK : KOK p l e R s m args below meth c Q D G A ρ0 nL Pe (pc + 1) K) : KOK p l e R s m args below meth c Q D G A ρ0 nL Pe pc (op_iald 0 call K) := by
  intro E n z L S M rs h he ρ H locs ls st h0 hE hM hS hL hs
  rcases S with _ | ⟨b, _ | ⟨a, S⟩⟩
  · cases h
  · rcases b with x | b | x | o | j | w | k | k <;> cases h
  obtain ⟨v, st1, rfl, hv, hs1⟩ := czs_cons hs
  obtain ⟨u, st, rfl, hu, hs'⟩ := czs_cons hs1
  rcases b with j | b | x | o | i | w | k | k
  · rcases a with x | a | x | o | i | w | k | k
    · cases h
    · obtain ⟨q, hq, rfl⟩ := hu
      obtain ⟨ws, e0, g1, g2, g3, g4, -, -⟩ := mem_at hM hq
      unfold op_iald at h
      have hv' : v = .int (nI j) := hv
      subst hv'
      rcases hcel : tget 9 M a with o | o | o | o
      · simp only [hcel] at h; cases h
      · rw [hcel] at g2
        simp only [hcel] at h
        obtain ⟨h1, h2⟩ := gd_some h
        obtain ⟨h3, h4⟩ := gd_some h2
        obtain ⟨cA, f, rfl, hty, hN, -, hf⟩ := g2
        rw [Nat.eq_of_beq_eq_true h1] at hty
        have hj : j < o.2.1 := Nat.le_of_ble_eq_true h3
        have hcl := clamp_nI hj hN
        refine va_iald C.1 C.2.1 (K1 C.2.2.2.2.2.1 hty) g3 a 0 g1 rfl (vp_in_nI hj (by omega)) hdg ?_
        rw [hcl]
        exact hK E n z L _ M rs h4 he ρ H locs ls _ h0 hE hM hS hL ⟨hf j hj, hs'⟩
      · simp only [hcel] at h; cases h
      · simp only [hcel] at h; cases h
    all_goals cases h
  all_goals (rcases a with x | a | x | o | i | w | k | k <;> cases h)
theorem ok_bald (C : Cx cc own Ts p l s m args meth c D G A nL) {call : Call} (hdg : decode cc pc = .ok (.baload, 1)) (hK : KOK p l e R s m args below meth c Q D G A ρ0 nL Pe (pc + 1) K) : KOK p l e R s m args below meth c Q D G A ρ0 nL Pe pc (op_iald 1 call K) := by
  intro E n z L S M rs h he ρ H locs ls st h0 hE hM hS hL hs
  rcases S with _ | ⟨b, _ | ⟨a, S⟩⟩
  · cases h
  · rcases b with x | b | x | o | j | w | k | k <;> cases h
  obtain ⟨v, st1, rfl, hv, hs1⟩ := czs_cons hs
  obtain ⟨u, st, rfl, hu, hs'⟩ := czs_cons hs1
  rcases b with j | b | x | o | i | w | k | k
  · rcases a with x | a | x | o | i | w | k | k
    · cases h
    · obtain ⟨q, hq, rfl⟩ := hu
      obtain ⟨ws, e0, g1, g2, g3, g4, -, -⟩ := mem_at hM hq
      unfold op_iald at h
      have hv' : v = .int (nI j) := hv
      subst hv'
      rcases hcel : tget 9 M a with o | o | o | o
      · simp only [hcel] at h; cases h
      · rw [hcel] at g2
        simp only [hcel] at h
        obtain ⟨h1, h2⟩ := gd_some h
        obtain ⟨h3, h4⟩ := gd_some h2
        obtain ⟨cA, f, rfl, hty, hN, -, hf⟩ := g2
        rw [Nat.eq_of_beq_eq_true h1] at hty
        have hj : j < o.2.1 := Nat.le_of_ble_eq_true h3
        have hcl := clamp_nI hj hN
        refine va_bald C.1 C.2.1 (K1 C.2.2.2.2.2.1 hty) g3 a 0 g1 rfl (vp_in_nI hj (by omega)) hdg ?_
        rw [hcl]
        exact hK E n z L _ M rs h4 he ρ H locs ls _ h0 hE hM hS hL ⟨hf j hj, hs'⟩
      · simp only [hcel] at h; cases h
      · simp only [hcel] at h; cases h
    all_goals cases h
  all_goals (rcases a with x | a | x | o | i | w | k | k <;> cases h)
theorem ok_zald (C : Cx cc own Ts p l s m args meth c D G A nL) {call : Call} (hdg : decode cc pc = .ok (.baload, 1)) (hK : KOK p l e R s m args below meth c Q D G A ρ0 nL Pe (pc + 1) K) : KOK p l e R s m args below meth c Q D G A ρ0 nL Pe pc (op_iald 2 call K) := by
  intro E n z L S M rs h he ρ H locs ls st h0 hE hM hS hL hs
  rcases S with _ | ⟨b, _ | ⟨a, S⟩⟩
  · cases h
  · rcases b with x | b | x | o | j | w | k | k <;> cases h
  obtain ⟨v, st1, rfl, hv, hs1⟩ := czs_cons hs
  obtain ⟨u, st, rfl, hu, hs'⟩ := czs_cons hs1
  rcases b with j | b | x | o | i | w | k | k
  · rcases a with x | a | x | o | i | w | k | k
    · cases h
    · obtain ⟨q, hq, rfl⟩ := hu
      obtain ⟨ws, e0, g1, g2, g3, g4, -, -⟩ := mem_at hM hq
      unfold op_iald at h
      have hv' : v = .int (nI j) := hv
      subst hv'
      rcases hcel : tget 9 M a with o | o | o | o
      · simp only [hcel] at h; cases h
      · rw [hcel] at g2
        simp only [hcel] at h
        obtain ⟨h1, h2⟩ := gd_some h
        obtain ⟨h3, h4⟩ := gd_some h2
        obtain ⟨cA, f, rfl, hty, hN, -, hf⟩ := g2
        rw [Nat.eq_of_beq_eq_true h1] at hty
        have hj : j < o.2.1 := Nat.le_of_ble_eq_true h3
        have hcl := clamp_nI hj hN
        refine va_zald C.1 C.2.1 (K1 C.2.2.2.2.2.1 hty) g3 a 0 g1 rfl (vp_in_nI hj (by omega)) hdg ?_
        rw [hcl]
        exact hK E n z L _ M rs h4 he ρ H locs ls _ h0 hE hM hS hL ⟨hf j hj, hs'⟩
      · simp only [hcel] at h; cases h
      · simp only [hcel] at h; cases h
    all_goals cases h
  all_goals (rcases a with x | a | x | o | i | w | k | k <;> cases h)
theorem aset_ok {ρ : List Nat} {q : Nat × Nat × Nat × List (Nat × AV)} {j : Nat} {v : AV} {x : Int32} {f : Cel → OR} {rs : List Res} (h : aset q j v f = some rs) (hv : cz G ρ v (.int x)) : ∃ (p' : Nat) (ov : List (Nat × AV)), f (cI q.1 q.2.1 p' ov) = some rs ∧ cz G ρ (aget p' ov j) (.int x) ∧ ∀ k, k ≠ j → aget p' ov k = aget q.2.2.1 q.2.2.2 k := by
  have oth : f (cI q.1 q.2.1 q.2.2.1 ((j, v) :: q.2.2.2)) = some rs → ∃ (p' : Nat) (ov : List (Nat × AV)), f (cI q.1 q.2.1 p' ov) = some rs ∧ cz G ρ (aget p' ov j) (.int x) ∧ ∀ k, k ≠ j → aget p' ov k = aget q.2.2.1 q.2.2.2 k := fun h =>
    ⟨_, _, h, by rw [aget_cons, if_pos rfl]; exact hv, fun k hk => by rw [aget_cons, if_neg (Ne.symm hk)]⟩
  rcases v with n | a | n | o | i | w | k | k
  · have h' : fN (pset q.2.2.1 j n) (fun p => f (cI q.1 q.2.1 p (orm q.2.2.2 j))) = some rs := h
    rw [fN_eq] at h'
    have hp : ∀ k, k ≠ j → pget (pset q.2.2.1 j n) k = pget q.2.2.1 k := fun k hk => by rw [pget_pset, if_neg hk]
    refine ⟨_, _, h', ?_, fun k hk => ?_⟩
    · rw [aget_orm q.2.2.1 _ j j (fun h => absurd rfl h), if_pos rfl, pget_pset, if_pos rfl]
      have hv' : Value.int x = .int (nI n) := hv
      show Value.int x = .int (nI (n % 4294967296))
      rw [nI_mod]; exact hv'
    · rw [aget_orm q.2.2.1 _ j k (hp k), if_neg hk]
  all_goals exact oth h
theorem upd_at (f : Nat → Int32) (j : Nat) (x : Int32) (k : Nat) : upd f j x k = if k = j then x else f k := rfl
theorem cel_upd {ρ : List Nat} {o : Nat × Nat × Nat × List (Nat × AV)} {j : Nat} {x : Int32} {cA : ClassId} {f : Nat → Int32} {p' : Nat} {ov : List (Nat × AV)} (hty : tyK s cA (tyOf o.1)) (hN : o.2.1 ≤ 100000) (ht : o.1 ≤ 2) (hf : ∀ j, j < o.2.1 → cz G ρ (aget o.2.2.1 o.2.2.2 j) (.int (f j))) (h1 : cz G ρ (aget p' ov j) (.int x)) (h2 : ∀ k, k ≠ j → aget p' ov k = aget o.2.2.1 o.2.2.2 k) :
    celR s G ρ (cI o.1 o.2.1 p' ov) (.inl (cA, o.2.1, .inl (upd f j x))) := by
  refine ⟨cA, upd f j x, rfl, hty, hN, ht, fun k hk => ?_⟩
  show cz G ρ (aget p' ov k) (.int (upd f j x k))
  rw [upd_at]
  by_cases hkj : k = j
  · rw [if_pos hkj, hkj]; exact h1
  · rw [if_neg hkj, h2 k hkj]; exact hf k hk
theorem ok_iast (C : Cx cc own Ts p l s m args meth c D G A nL) {call : Call} (hdg : decode cc pc = .ok (.iastore, 1)) (hK : KOK p l e R s m args below meth c Q D G A ρ0 nL Pe (pc + 1) K) : KOK p l e R s m args below meth c Q D G A ρ0 nL Pe pc (op_iast call K) := by
  intro E n z L S M rs h he ρ H locs ls st h0 hE hM hS hL hs
  rcases S with _ | ⟨d, _ | ⟨b, _ | ⟨a, S⟩⟩⟩
  · cases h
  · cases h
  · rcases b with x | b | x | o | j | w | k | k <;> cases h
  obtain ⟨y, st2, rfl, hy, hs2⟩ := czs_cons hs
  obtain ⟨v, st1, rfl, hv, hs1⟩ := czs_cons hs2
  obtain ⟨u, st, rfl, hu, hs'⟩ := czs_cons hs1
  rcases b with j | b | x | o | i | w | k | k
  · rcases a with x | a | x | o | i | w | k | k
    · cases h
    · obtain ⟨q, hq, rfl⟩ := hu
      obtain ⟨ws, e0, g1, g2, g3, g4, g5, -⟩ := mem_at hM hq
      unfold op_iast at h
      obtain ⟨h5, h⟩ := gd_some h
      obtain ⟨x, rfl⟩ := cz_isI hy h5
      have hv' : v = .int (nI j) := hv
      subst hv'
      rcases hcel : tget 9 M a with o | o | o | o
      · simp only [hcel] at h; cases h
      · rw [hcel] at g2
        simp only [hcel] at h
        obtain ⟨h1, h2⟩ := gd_some h
        obtain ⟨h3, h4⟩ := gd_some h2
        obtain ⟨cA, f, rfl, hty, hN, ht2, hf⟩ := g2
        have hj : j < o.2.1 := Nat.le_of_ble_eq_true h3
        have hcl := clamp_nI hj hN
        obtain ⟨p', ov, k1, k2, k3⟩ := aset_ok h4 hy
        have hty0 : tyK s cA .int := by rw [Nat.eq_of_beq_eq_true h1] at hty; exact hty
        refine va_iast C.1 C.2.1 (K1 C.2.2.2.2.2.1 hty0) g3 g4 hS a 0 g1 rfl (vp_in_nI hj (by omega)) hdg (fun H1 locs1 r1 r2 r3 => ?_)
        rw [hcl] at r1 r2
        exact hK E n z L _ _ rs k1 he ρ H1 locs1 ls _ h0 hE (g5 H1 _ _ r1 r2 (cel_upd hty hN ht2 hf k2 k3)) r3 hL hs'
      · simp only [hcel] at h; cases h
      · simp only [hcel] at h; cases h
    all_goals cases h
  all_goals (rcases a with x | a | x | o | i | w | k | k <;> cases h)
theorem ok_bast (C : Cx cc own Ts p l s m args meth c D G A nL) {call : Call} (hdg : decode cc pc = .ok (.bastore, 1)) (hK : KOK p l e R s m args below meth c Q D G A ρ0 nL Pe (pc + 1) K) : KOK p l e R s m args below meth c Q D G A ρ0 nL Pe pc (op_bast call K) := by
  intro E n z L S M rs h he ρ H locs ls st h0 hE hM hS hL hs
  rcases S with _ | ⟨d, _ | ⟨b, _ | ⟨a, S⟩⟩⟩
  · cases h
  · cases h
  · rcases b with x | b | x | o | j | w | k | k <;> cases h
  obtain ⟨y, st2, rfl, hy, hs2⟩ := czs_cons hs
  obtain ⟨v, st1, rfl, hv, hs1⟩ := czs_cons hs2
  obtain ⟨u, st, rfl, hu, hs'⟩ := czs_cons hs1
  rcases b with j | b | x | o | i | w | k | k
  · rcases a with x | a | x | o | i | w | k | k
    · cases h
    · obtain ⟨q, hq, rfl⟩ := hu
      obtain ⟨ws, e0, g1, g2, g3, g4, g5, -⟩ := mem_at hM hq
      unfold op_bast at h
      obtain ⟨h5, h⟩ := gd_some h
      obtain ⟨x, rfl⟩ := cz_isI hy h5
      have hv' : v = .int (nI j) := hv
      subst hv'
      rcases hcel : tget 9 M a with o | o | o | o
      · simp only [hcel] at h; cases h
      · rw [hcel] at g2
        simp only [hcel] at h
        obtain ⟨h3, h4⟩ := gd_some h
        obtain ⟨cA, f, rfl, hty, hN, ht2, hf⟩ := g2
        have hj : j < o.2.1 := Nat.le_of_ble_eq_true h3
        have hcl := clamp_nI hj hN
        cases hb2 : Nat.beq o.1 2 with
        | false =>
          rw [hb2] at h4
          obtain ⟨h1, h6⟩ := gd_some (show gd (Nat.beq o.1 1) (unK (fun x => toN (nI x).toInt8.toInt32) d fun v => aset o j v fun c => K E n z L S (tset 9 M a c)) = some rs from h4)
          obtain ⟨w, hw, hcw⟩ := unK_ok (op := fun x => x.toInt8.toInt32) h6 hy (fun u => nI_toN _)
          obtain ⟨p', ov, k1, k2, k3⟩ := aset_ok hw hcw
          have hty0 : tyK s cA .byte := by rw [Nat.eq_of_beq_eq_true h1] at hty; exact hty
          refine va_bast C.1 C.2.1 (K1 C.2.2.2.2.2.1 hty0) g3 g4 hS a 0 g1 rfl (vp_in_nI hj (by omega)) hdg (fun H1 locs1 r1 r2 r3 => ?_)
          rw [hcl] at r1 r2
          exact hK E n z L _ _ rs k1 he ρ H1 locs1 ls _ h0 hE (g5 H1 _ _ r1 r2 (cel_upd hty hN ht2 hf k2 k3)) r3 hL hs'
        | true =>
          rw [hb2] at h4
          obtain ⟨h1, h6⟩ := gd_some (show gd (isZ d) (aset o j d fun c => K E n z L S (tset 9 M a c)) = some rs from h4)
          obtain ⟨k, hk, rfl, hxx⟩ := cz_isZ hy h1
          have hxx' : x = nI k := Value.int.inj hxx
          obtain ⟨p', ov, k1, k2, k3⟩ := aset_ok h6 hy
          have hty0 : tyK s cA .boolean := by rw [Nat.eq_of_beq_eq_true hb2] at hty; exact hty
          have hnz : vp_nar .boolean x = x := by rw [hxx']; rcases (show k = 0 ∨ k = 1 by omega) with rfl | rfl <;> decide +kernel
          refine va_zast C.1 C.2.1 (K1 C.2.2.2.2.2.1 hty0) g3 g4 hS a 0 g1 rfl (vp_in_nI hj (by omega)) hdg (fun H1 locs1 r1 r2 r3 => ?_)
          rw [hcl, hnz] at r1 r2
          exact hK E n z L _ _ rs k1 he ρ H1 locs1 ls _ h0 hE (g5 H1 _ _ r1 r2 (cel_upd hty hN ht2 hf k2 k3)) r3 hL hs'
      · simp only [hcel] at h; cases h
      · simp only [hcel] at h; cases h
    all_goals cases h
  all_goals (rcases a with x | a | x | o | i | w | k | k <;> cases h)
theorem ok_aald (C : Cx cc own Ts p l s m args meth c D G A nL) {call : Call} (hdg : decode cc pc = .ok (.aaload, 1)) (hK : KOK p l e R s m args below meth c Q D G A ρ0 nL Pe (pc + 1) K) : KOK p l e R s m args below meth c Q D G A ρ0 nL Pe pc (op_aald call K) := by
  intro E n z L S M rs h he ρ H locs ls st h0 hE hM hS hL hs
  rcases S with _ | ⟨b, _ | ⟨a, S⟩⟩
  · cases h
  · rcases b with x | b | x | o | j | w | k | k <;> cases h
  obtain ⟨v, st1, rfl, hv, hs1⟩ := czs_cons hs
  obtain ⟨u, st, rfl, hu, hs'⟩ := czs_cons hs1
  rcases b with j | b | x | o | i | w | k | k
  · rcases a with x | a | x | o | i | w | k | k
    · cases h
    · obtain ⟨q, hq, rfl⟩ := hu
      obtain ⟨ws, e0, g1, g2, g3, g4, -, -⟩ := mem_at hM hq
      unfold op_aald at h
      have hv' : v = .int (nI j) := hv
      subst hv'
      rcases hcel : tget 9 M a with o | o | o | o
      · simp only [hcel] at h; cases h
      · simp only [hcel] at h; cases h
      · rw [hcel] at g2
        simp only [hcel] at h
        obtain ⟨h3, h4⟩ := gd_some h
        have hj : j < o.2.length := Nat.le_of_ble_eq_true h3
        have g2' : o.2 = [] ∨ _ := g2
        rcases g2' with g2' | ⟨cA, f, r, rfl, hr, hty, hN, hf⟩
        · rw [g2'] at hj; exact absurd hj (Nat.not_lt_zero _)
        have hcl := clamp_nI hj hN
        refine va_aldq C.1 C.2.1 (K1 C.2.2.2.2.2.1 hty) g3 a 0 g1 rfl (vp_in_nI hj (by omega)) hdg ?_
        rw [hcl]
        exact hK E n z L _ M rs h4 he ρ H locs ls _ h0 hE hM hS hL ⟨hf j hj, hs'⟩
      · simp only [hcel] at h; cases h
    all_goals cases h
  all_goals (rcases a with x | a | x | o | i | w | k | k <;> cases h)
theorem ok_lald (C : Cx cc own Ts p l s m args meth c D G A nL) {call : Call} (hdg : decode cc pc = .ok (.laload, 1)) (hK : KOK p l e R s m args below meth c Q D G A ρ0 nL Pe (pc + 1) K) : KOK p l e R s m args below meth c Q D G A ρ0 nL Pe pc (op_lald call K) := by
  intro E n z L S M rs h he ρ H locs ls st h0 hE hM hS hL hs
  rcases S with _ | ⟨b, _ | ⟨a, S⟩⟩
  · cases h
  · rcases b with x | b | x | o | j | w | k | k <;> cases h
  obtain ⟨v, st1, rfl, hv, hs1⟩ := czs_cons hs
  obtain ⟨u, st, rfl, hu, hs'⟩ := czs_cons hs1
  rcases b with j | b | x | o | i | w | k | k
  · rcases a with x | a | x | o | i | w | k | k
    · cases h
    · obtain ⟨q, hq, rfl⟩ := hu
      obtain ⟨ws, e0, g1, g2, g3, g4, -, -⟩ := mem_at hM hq
      unfold op_lald at h
      have hv' : v = .int (nI j) := hv
      subst hv'
      rcases hcel : tget 9 M a with o | o | o | o
      · simp only [hcel] at h; cases h
      · simp only [hcel] at h; cases h
      · simp only [hcel] at h; cases h
      · rw [hcel] at g2
        simp only [hcel] at h
        obtain ⟨h3, h4⟩ := gd_some h
        obtain ⟨cA, f, rfl, hty, hN, hf⟩ := g2
        have hj : j < o.length := Nat.le_of_ble_eq_true h3
        have hcl := clamp_nI hj hN
        refine va_lald C.1 C.2.1 (K1 C.2.2.2.2.2.1 hty) g3 a 0 g1 rfl (vp_in_nI hj (by omega)) hdg ?_
        rw [hcl]
        exact hK E n z L _ M rs h4 he ρ H locs ls _ h0 hE hM hS hL ⟨hf j hj, hs'⟩
    all_goals cases h
  all_goals (rcases a with x | a | x | o | i | w | k | k <;> cases h)
theorem ok_last (C : Cx cc own Ts p l s m args meth c D G A nL) {call : Call} (hdg : decode cc pc = .ok (.lastore, 1)) (hK : KOK p l e R s m args below meth c Q D G A ρ0 nL Pe (pc + 1) K) : KOK p l e R s m args below meth c Q D G A ρ0 nL Pe pc (op_last call K) := by
  intro E n z L S M rs h he ρ H locs ls st h0 hE hM hS hL hs
  rcases S with _ | ⟨d, _ | ⟨b, _ | ⟨a, S⟩⟩⟩
  · cases h
  · cases h
  · rcases b with x | b | x | o | j | w | k | k <;> cases h
  obtain ⟨y, st2, rfl, hy, hs2⟩ := czs_cons hs
  obtain ⟨v, st1, rfl, hv, hs1⟩ := czs_cons hs2
  obtain ⟨u, st, rfl, hu, hs'⟩ := czs_cons hs1
  rcases b with j | b | x | o | i | w | k | k
  · rcases a with x | a | x | o | i | w | k | k
    · cases h
    · obtain ⟨q, hq, rfl⟩ := hu
      obtain ⟨ws, e0, g1, g2, g3, g4, g5, -⟩ := mem_at hM hq
      unfold op_last at h
      obtain ⟨h5, h⟩ := gd_some h
      obtain ⟨x, rfl⟩ := cz_isJ hy h5
      have hv' : v = .int (nI j) := hv
      subst hv'
      rcases hcel : tget 9 M a with o | o | o | o
      · simp only [hcel] at h; cases h
      · simp only [hcel] at h; cases h
      · simp only [hcel] at h; cases h
      · rw [hcel] at g2
        simp only [hcel] at h
        obtain ⟨h3, h4⟩ := gd_some h
        obtain ⟨cA, f, rfl, hty, hN, hf⟩ := g2
        have hj : j < o.length := Nat.le_of_ble_eq_true h3
        have hcl := clamp_nI hj hN
        refine va_last C.1 C.2.1 (K1 C.2.2.2.2.2.1 hty) g3 g4 hS a 0 g1 rfl (vp_in_nI hj (by omega)) hdg (fun H1 locs1 r1 r2 r3 => ?_)
        rw [hcl] at r1 r2
        refine hK E n z L _ _ rs h4 he ρ H1 locs1 ls _ h0 hE (g5 H1 _ _ r1 r2 ⟨cA, vp_updL f j x, by rw [nst_len], hty, by rw [nst_len]; exact hN, fun k hk => ?_⟩) r3 hL hs'
        rw [nst_len] at hk
        rw [nth_nst]
        show cz G ρ _ (.long (if k = j then x else f k))
        by_cases hkj : k = j
        · rw [if_pos ⟨hkj, hj⟩, if_pos hkj]; exact hy
        · rw [if_neg (fun h => hkj h.1), if_neg hkj]; exact hf k hk
    all_goals cases h
  all_goals (rcases a with x | a | x | o | i | w | k | k <;> cases h)
theorem ok_alen (C : Cx cc own Ts p l s m args meth c D G A nL) {call : Call} (hdg : decode cc pc = .ok (.arraylength, 1)) (hK : KOK p l e R s m args below meth c Q D G A ρ0 nL Pe (pc + 1) K) : KOK p l e R s m args below meth c Q D G A ρ0 nL Pe pc (op_alen call K) := by
  intro E n z L S M rs h he ρ H locs ls st h0 hE hM hS hL hs
  rcases S with _ | ⟨a, S⟩
  · cases h
  obtain ⟨u, st, rfl, hu, hs'⟩ := czs_cons hs
  rcases a with x | a | x | o | i | w | k | k
  · cases h
  · obtain ⟨q, hq, rfl⟩ := hu
    obtain ⟨ws, e0, g1, g2, g3, g4, -, -⟩ := mem_at hM hq
    unfold op_alen at h
    rcases hcel : tget 9 M a with o | o | o | o
    · simp only [hcel] at h; cases h
    · rw [hcel] at g2
      simp only [hcel] at h
      obtain ⟨cA, f, rfl, hty, hN, -, hf⟩ := g2
      exact va_alen C.1 C.2.1 (K1 C.2.2.2.2.2.1 hty) g3 a 0 g1 rfl (v := nI o.2.1) rfl hdg (hK E n z L _ M rs h he ρ H locs ls _ h0 hE hM hS hL ⟨rfl, hs'⟩)
    · simp only [hcel] at h; cases h
    · simp only [hcel] at h; cases h
  all_goals cases h
theorem ok_aast (C : Cx cc own Ts p l s m args meth c D G A nL) {call : Call} {ci : Nat} (hdg : decode cc pc = .ok (.aastore, 1)) (hK : KOK p l e R s m args below meth c Q D G A ρ0 nL Pe (pc + 1) K) : KOK p l e R s m args below meth c Q D G A ρ0 nL Pe pc (op_aast ci call K) := by
  intro E n z L S M rs h he ρ H locs ls st h0 hE hM hS hL hs
  rcases S with _ | ⟨d, _ | ⟨b, _ | ⟨a, S⟩⟩⟩
  · cases h
  · rcases d with x | b | x | o | j | w | k | k <;> cases h
  · rcases d with x | d | x | o | j | w | k | k
    · cases h
    · rcases b with x | b | x | o | j | w | k | k <;> cases h
    all_goals cases h
  obtain ⟨y, st2, rfl, hy, hs2⟩ := czs_cons hs
  obtain ⟨v, st1, rfl, hv, hs1⟩ := czs_cons hs2
  obtain ⟨u, st, rfl, hu, hs'⟩ := czs_cons hs1
  rcases d with x | d | x | o | i | w | k | k
  · cases h
  · rcases b with j | b | x | o | i | w | k | k
    · rcases a with x | a | x | o | i | w | k | k
      · cases h
      · obtain ⟨q, hq, rfl⟩ := hu
        obtain ⟨q2, hq2, rfl⟩ := hy
        obtain ⟨ws, e0, g1, g2, g3, g4, g5, g6⟩ := mem_at hM hq
        obtain ⟨e2, f1, f2⟩ := g6 d q2 hq2
        unfold op_aast at h
        have hv' : v = .int (nI j) := hv
        subst hv'
        rcases hcel : tget 9 M a with o | o | o | o
        · simp only [hcel] at h; cases h
        · simp only [hcel] at h; cases h
        · rcases hcel2 : tget 9 M d with o' | o'
          · rw [hcel] at g2
            rw [hcel2] at f2
            simp only [hcel, hcel2] at h
            obtain ⟨h1, h2⟩ := gd_some h
            obtain ⟨h3, h4⟩ := gd_some h2
            obtain ⟨h5, h6⟩ := gd_some h4
            have hj : j < o.2.length := Nat.le_of_ble_eq_true h5
            have g2' : o.2 = [] ∨ _ := g2
            rcases g2' with g2' | ⟨cA, f, r, rfl, hr, hty, hN, hf⟩
            · rw [g2'] at hj; exact absurd hj (Nat.not_lt_zero _)
            obtain ⟨vs, rfl, -⟩ := f2
            have hcl := clamp_nI hj hN
            have ec : o'.1 = o.1 := by rw [Nat.eq_of_beq_eq_true h1, Nat.eq_of_beq_eq_true h3]
            rw [ec] at f1
            refine va_astq C.1 C.2.1 (K1 C.2.2.2.2.2.1 hty) g3 g4 hS a 0 d o.1 g1 rfl f1 hr (vp_in_nI hj (by omega)) hdg (fun H1 locs1 r1 r2 r3 => ?_)
            rw [hcl] at r1 r2
            refine hK E n z L _ _ rs h6 he ρ H1 locs1 ls _ h0 hE (g5 H1 _ _ r1 r2 (Or.inr ⟨cA, va_up f j (some q2), r, by rw [nst_len], hr, hty, by rw [nst_len]; exact hN, fun k hk => ?_⟩)) r3 hL hs'
            rw [nst_len] at hk
            rw [nth_nst]
            show cz G ρ _ (va_rf (if k = j then some q2 else f k))
            by_cases hkj : k = j
            · rw [if_pos ⟨hkj, hj⟩, if_pos hkj]; exact ⟨q2, hq2, rfl⟩
            · rw [if_neg (fun h => hkj h.1), if_neg hkj]; exact hf k hk
          · simp only [hcel, hcel2] at h; cases h
        · simp only [hcel] at h; cases h
      all_goals cases h
    all_goals (rcases a with x | a | x | o | i | w | k | k <;> cases h)
  all_goals (rcases b with j | b | x | o | i | w | k | k <;> (rcases a with x | a | x | o | i | w | k | k <;> cases h))
theorem ok_oinit (C : Cx cc own Ts p l s m args meth c D G A nL) {call : Call} {idx : Nat} (hlink : (Cond.methodLink own idx Lib.objectInit).before args s = true) (hinst : (Cond.instanceMethod Lib.objectInit).before args s = true) (hcode : (Cond.code Lib.objectInit ⟨#[0xb1]⟩ 1 none).before args s = true) (hfr : 1 ≤ R.frames) (hlo : 12 ≤ R.locals) (hdg : decode cc pc = .ok (.invokespecial idx, 3)) (hK : KOK p l e R s m args below meth c Q D G A ρ0 nL Pe (pc + 3) K) : KOK p l e R s m args below meth c Q D G A ρ0 nL Pe pc (op_oinit call K) := by
  intro E n z L S M rs h he ρ H locs ls st h0 hE hM hS hL hs
  rcases S with _ | ⟨a, S⟩
  · cases h
  obtain ⟨u, st, rfl, hu, hs'⟩ := czs_cons hs
  rcases a with x | a | x | o | i | w | k | k
  · cases h
  · rcases S with _ | ⟨b, S⟩
    · obtain ⟨q, hq, rfl⟩ := hu
      have h' : K E n z L [] M = some rs := h
      rcases st with _ | ⟨b, st⟩
      · exact W.objInit C.1 C.2.1 C.2.2.2.1 hlink hinst hcode rfl (hL.1.trans C.2.2.1.symm) rfl hdg hfr (by show 2 * 0 + 0 + 12 ≤ R.locals; omega) (hK E n z L [] M rs h' he ρ H locs ls [] h0 hE hM hS hL hs')
      · exact hs'.elim
    · cases h
  all_goals cases h
theorem ok_sld (C : Cx cc own Ts p l s m args meth c D G A nL) {call : Call} {N : Nat} (hX : va_X G.2.2 N G.1 s s.heap) (hbl : G.2.2 < s.heap.size) (hbA : ¬ A G.2.2) (hN : N ≤ 100000) (hdg : decode cc pc = .ok (.iaload, 1)) (hK : KOK p l e R s m args below meth c Q D G A ρ0 nL Pe (pc + 1) K) : KOK p l e R s m args below meth c Q D G A ρ0 nL Pe pc (op_sld N call K) := by
  intro E n z L S M rs h he ρ H locs ls st h0 hE hM hS hL hs
  rcases S with _ | ⟨b, _ | ⟨a, S⟩⟩
  · cases h
  · rcases b with x | b | x | o | j | w | k | k <;> cases h
  obtain ⟨v, st1, rfl, hv, hs1⟩ := czs_cons hs
  obtain ⟨u, st, rfl, hu, hs'⟩ := czs_cons hs1
  rcases b with j | b | x | o | i | w | k | k
  · rcases a with x | a | x | o | i | w | k | k
    · cases h
    · cases h
    · cases h
    · cases h
    · cases h
    · obtain ⟨h1, h2⟩ := gd_some (show gd (Nat.beq w 2) (gd (Nat.ble (j + 1) N) (Bool.rec (K E n z L (vX (some (j, 0)) :: S) M) (K E n z L (vI (bi (nthE E j).1) :: S) M) (Nat.beq (nthE E j).1 (nthE E j).2))) = some rs from h)
      obtain ⟨h3, h4⟩ := gd_some h2
      have hw := Nat.eq_of_beq_eq_true h1
      have hj : j < N := Nat.le_of_ble_eq_true h3
      have hv' : v = .int (nI j) := hv
      subst hv'
      have hu2 : u = .ref G.2.2 := by
        rcases hu with ⟨q, -⟩ | ⟨q, -⟩ | ⟨-, q⟩ | ⟨q, -⟩ | ⟨q, -⟩
        · omega
        · omega
        · exact q
        · omega
        · omega
      subst hu2
      refine va_sld C.1 C.2.1 hX hbl hbA hS (vp_in_nI hj (by omega)) hdg ?_
      rw [clamp_nI hj hN]
      cases hp : Nat.beq (nthE E j).1 (nthE E j).2 with
      | false =>
        rw [hp] at h4
        refine hK E n z L _ M rs (show K E n z L (vX (some (j, 0)) :: S) M = some rs from h4) he ρ H locs ls _ h0 hE hM hS hL ⟨?_, hs'⟩
        show Value.int (G.1 j) = .int (G.1 j + nI 0)
        rw [show nI 0 = 0 from rfl]
        simp
      | true =>
        rw [hp] at h4
        refine hK E n z L _ M rs (show K E n z L (vI (bi (nthE E j).1) :: S) M = some rs from h4) he ρ H locs ls _ h0 hE hM hS hL ⟨?_, hs'⟩
        show Value.int (G.1 j) = .int (nI (bi (nthE E j).1))
        rw [← envR_pt hE hp]
    · cases h
    · cases h
  all_goals (rcases a with x | a | x | o | i | w | k | k <;> cases h)
theorem ok_slen (C : Cx cc own Ts p l s m args meth c D G A nL) {call : Call} {N : Nat} (hX : va_X G.2.2 N G.1 s s.heap) (hbl : G.2.2 < s.heap.size) (hbA : ¬ A G.2.2) (hdg : decode cc pc = .ok (.arraylength, 1)) (hK : KOK p l e R s m args below meth c Q D G A ρ0 nL Pe (pc + 1) K) : KOK p l e R s m args below meth c Q D G A ρ0 nL Pe pc (op_slen N call K) := by
  intro E n z L S M rs h he ρ H locs ls st h0 hE hM hS hL hs
  rcases S with _ | ⟨a, S⟩
  · cases h
  obtain ⟨u, st, rfl, hu, hs'⟩ := czs_cons hs
  rcases a with x | a | x | o | i | w | k | k
  · cases h
  · cases h
  · cases h
  · cases h
  · cases h
  · obtain ⟨h1, h2⟩ := gd_some (show gd (Nat.beq w 2) (K E n z L (vI N :: S) M) = some rs from h)
    have hw := Nat.eq_of_beq_eq_true h1
    have hu2 : u = .ref G.2.2 := by
      rcases hu with ⟨q, -⟩ | ⟨q, -⟩ | ⟨-, q⟩ | ⟨q, -⟩ | ⟨q, -⟩
      · omega
      · omega
      · exact q
      · omega
      · omega
    subst hu2
    exact va_slen C.1 C.2.1 hX hbl hbA hS hdg (hK E n z L _ M rs h2 he ρ H locs ls _ h0 hE hM hS hL ⟨rfl, hs'⟩)
  · cases h
  · cases h
end OPM
