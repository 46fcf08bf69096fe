/-! the reference's copying of a row, as one step; runs that fork over the number 2 -/
section COPY
variable {call : Call} {E : Env9} {n : Nat} {a a0 b b0 : Nat}
noncomputable def cpR (call : Call) (E : Env9) (n a a0 b b0 f bk k : Nat) (M : Mem) : OR := runF call 3 ct_X11_copies f bk E n 0 [vR a, vI a0, vR b, vI b0, vI k] [] M
def smV (x y : AV) : Prop := ∀ (G : Gam) (ρ : List Nat) (w : Value), cz G ρ x w ↔ cz G ρ y w
theorem gd_t {α : Type} {c : Bool} {x : Option α} (h : c = true) : gd c x = x := by rw [h]; rfl
theorem cm_n (x y : Nat) (kl ke kg : Env9 → OR) : cmp3 (vI x) (vI y) E kl ke kg = c3 (bi x) (bi y) (kl E) (ke E) (kg E) := rfl
theorem rF_1 {d b : Nat} {code : TrT Blk d} {ops : List Op1} {t : Trm} (f : Nat) (h : tget d code b = (ops, t)) : runF call d code (f + 1) b = runB call (runF call d code f) t ops := by
  have e : runF call d code (f + 1) b = runB call (runF call d code f) (tget d code b).2 (tget d code b).1 := rfl
  rw [e, h]
theorem rB_c (j : Jmp) (t : Trm) (o : Op1) (l : List Op1) : runB call j t (o :: l) = o call (runB call j t l) := rfl
theorem rB_n (j : Jmp) (t : Trm) : runB call j t [] = t call j := rfl
theorem ol_n (f : AV → Bool) (i z : Nat) (K : KK) (L S : List AV) (M : Mem) : op_ld f i call K E n z L S M = gd (f (nth L i)) (K E n z L (nth L i :: S) M) := rfl
theorem pu_n (v : AV) (z : Nat) (K : KK) (L S : List AV) (M : Mem) : op_push v call K E n z L S M = K E n z L (v :: S) M := rfl
theorem cp_ic (f k : Nat) (M : Mem) : cpR call E n a a0 b b0 (f + 1) 1 k M = tm_icmp 2 3 3 call (runF call 3 ct_X11_copies f) E n 0 [vR a, vI a0, vR b, vI b0, vI k] [vI 627, vI k] M := by
  unfold cpR
  rw [rF_1 f (show tget 3 ct_X11_copies 1 = ([op_ld isI 4, op_push (vI 627)], tm_icmp 2 3 3) from rfl), rB_c, rB_c, rB_n, ol_n, pu_n]
  have h : nth [vR a, vI a0, vR b, vI b0, vI k] 4 = vI k := rfl
  rw [h]
  exact gd_t rfl
theorem ic_n (tl te tg x y z : Nat) (J : Jmp) (L : List AV) (M : Mem) : tm_icmp tl te tg call J E n z L [vI y, vI x] M = cmp3 (vI x) (vI y) E (fun E => J tl E n z L [] M) (fun E => J te E n z L [] M) (fun E => J tg E n z L [] M) := rfl
theorem cp_test (f k : Nat) (M : Mem) (hk : k < 627) : cpR call E n a a0 b b0 (f + 1) 1 k M = cpR call E n a a0 b b0 f 2 k M := by
  have h : bi k < bi 627 := by unfold bi; omega
  rw [cp_ic, ic_n, cm_n, c3_eq, if_pos h]
  rfl
theorem cp_end (f : Nat) (M : Mem) : cpR call E n a a0 b b0 (f + 1) 1 627 M = cpR call E n a a0 b b0 f 3 627 M := by
  have e : cpR call E n a a0 b b0 (f + 1) 1 627 M = c3 (bi 627) (bi 627) (cpR call E n a a0 b b0 f 2 627 M) (cpR call E n a a0 b b0 f 3 627 M) (cpR call E n a a0 b b0 f 3 627 M) := rfl
  rw [e, c3_eq, if_neg (by omega), if_pos rfl]
theorem cp_0 (f : Nat) (M : Mem) : gd (Nat.ble (flatL [vR a, vI a0, vR b, vI b0]).length 5) (runF call 3 ct_X11_copies (f + 1) 0 E n 0 (iniL 5 [vR a, vI a0, vR b, vI b0]) [] M) = cpR call E n a a0 b b0 f 1 0 M := rfl
theorem cp_ret (f k : Nat) (M : Mem) : cpR call E n a a0 b b0 (f + 1) 3 k M = some [((1, 0), E, vW 3, [], [], M, n, 0)] := rfl
theorem aset_is {q : Nat × Nat × Nat × List (Nat × AV)} {j : Nat} {v : AV} {f : Cel → OR} (hv : isI v = true) : ∃ p2 ov2, aset q j v f = f (cI q.1 q.2.1 p2 ov2) ∧ ∀ i, smV (aget p2 ov2 i) (if i = j then v else aget q.2.2.1 q.2.2.2 i) := by
  rcases v with x | k | k | o | i | w | k | k
  · refine ⟨pset q.2.2.1 j x, orm q.2.2.2 j, ?_, fun i => ?_⟩
    · show fN (pset q.2.2.1 j x) (fun p => f (cI q.1 q.2.1 p (orm q.2.2.2 j))) = _
      rw [fN_eq]
    · rw [aget_orm q.2.2.1 (pset q.2.2.1 j x) j i (fun h => by rw [pget_pset, if_neg h])]
      by_cases h : i = j
      · rw [if_pos h, if_pos h, pget_pset, if_pos rfl]
        intro G ρ w
        show w = .int (nI (x % 4294967296)) ↔ w = .int (nI x)
        rw [nI_mod]
      · rw [if_neg h, if_neg h]; exact fun _ _ _ => Iff.rfl
  · cases hv
  · cases hv
  · refine ⟨q.2.2.1, (j, vX o) :: q.2.2.2, rfl, fun i => ?_⟩
    rw [aget_cons]
    by_cases h : j = i
    · rw [if_pos h, if_pos h.symm]; exact fun _ _ _ => Iff.rfl
    · rw [if_neg h, if_neg (fun e => h e.symm)]; exact fun _ _ _ => Iff.rfl
  all_goals cases hv
theorem cp_step {f k Na p Nb p' : Nat} {ov ov' : List (Nat × AV)} {M : Mem} (hA : tget 9 M a = cI 0 Na p ov) (hB : tget 9 M b = cI 0 Nb p' ov') (h1 : a0 + k + 1 ≤ Na) (h2 : b0 + k + 1 ≤ Nb) (h3 : Na ≤ 100000) (h4 : Nb ≤ 100000) (hk : k < 627) (hi : isI (aget p ov (a0 + k)) = true) :
    ∃ p2 ov2, cpR call E n a a0 b b0 (f + 1) 2 k M = cpR call E n a a0 b b0 f 1 (k + 1) (tset 9 M b (cI 0 Nb p2 ov2)) ∧ ∀ j, smV (aget p2 ov2 j) (if j = b0 + k then aget p ov (a0 + k) else aget p' ov' j) := by
  obtain ⟨p2, ov2, g1, g2⟩ := aset_is (q := (0, Nb, p', ov')) (j := b0 + k) (v := aget p ov (a0 + k)) (f := fun c => op_iinc 4 1 call (tm_goto 1 call (runF call 3 ct_X11_copies f)) E n 0 [vR a, vI a0, vR b, vI b0, vI k] [] (tset 9 M b c)) hi
  refine ⟨p2, ov2, ?_, g2⟩
  have e1 : cpR call E n a a0 b b0 (f + 1) 2 k M = fN ((b0 + k) % 4294967296) (fun r1 => fN ((a0 + k) % 4294967296) (fun r2 => op_iald 0 call (op_iast call (op_iinc 4 1 call (tm_goto 1 call (runF call 3 ct_X11_copies f)))) E n 0 [vR a, vI a0, vR b, vI b0, vI k] [vI r2, vR a, vI r1, vR b] M)) := rfl
  rw [e1, fN_eq, fN_eq, Nat.mod_eq_of_lt (by omega), Nat.mod_eq_of_lt (by omega)]
  have e2 : op_iald 0 call (op_iast call (op_iinc 4 1 call (tm_goto 1 call (runF call 3 ct_X11_copies f)))) E n 0 [vR a, vI a0, vR b, vI b0, vI k] [vI (a0 + k), vR a, vI (b0 + k), vR b] M = op_iast call (op_iinc 4 1 call (tm_goto 1 call (runF call 3 ct_X11_copies f))) E n 0 [vR a, vI a0, vR b, vI b0, vI k] [aget p ov (a0 + k), vI (b0 + k), vR b] M := by
    unfold op_iald
    simp only [hA]
    rw [gd_t (Nat.beq_refl 0), gd_t (Nat.ble_eq_true_of_le h1)]
  rw [e2]
  have e3 : op_iast call (op_iinc 4 1 call (tm_goto 1 call (runF call 3 ct_X11_copies f))) E n 0 [vR a, vI a0, vR b, vI b0, vI k] [aget p ov (a0 + k), vI (b0 + k), vR b] M = aset (0, Nb, p', ov') (b0 + k) (aget p ov (a0 + k)) (fun c => op_iinc 4 1 call (tm_goto 1 call (runF call 3 ct_X11_copies f)) E n 0 [vR a, vI a0, vR b, vI b0, vI k] [] (tset 9 M b c)) := by
    unfold op_iast
    simp only [hB]
    rw [gd_t hi, gd_t (Nat.beq_refl 0), gd_t (Nat.ble_eq_true_of_le h2)]
  rw [e3, g1]
  have e4 : op_iinc 4 1 call (tm_goto 1 call (runF call 3 ct_X11_copies f)) E n 0 [vR a, vI a0, vR b, vI b0, vI k] [] (tset 9 M b (cI 0 Nb p2 ov2)) = fN ((k + 1) % 4294967296) (fun r => runF call 3 ct_X11_copies f 1 E n 0 [vR a, vI a0, vR b, vI b0, vI r] [] (tset 9 M b (cI 0 Nb p2 ov2))) := rfl
  rw [e4, fN_eq, Nat.mod_eq_of_lt (by omega)]
  rfl
theorem smV_trans {x y z : AV} (h1 : smV x y) (h2 : smV y z) : smV x z := fun G ρ w => (h1 G ρ w).trans (h2 G ρ w)
theorem cp_loop {Na p Nb : Nat} {ov : List (Nat × AV)} (hab : a ≠ b) (ha : a < 512) (hb : b < 512) (h1 : a0 + 627 ≤ Na) (h2 : b0 + 627 ≤ Nb) (h3 : Na ≤ 100000) (h4 : Nb ≤ 100000) (hi : ∀ j, isI (aget p ov j) = true) : ∀ (d k f p' : Nat) (ov' : List (Nat × AV)) (M : Mem), k + d = 627 → 2 * d + 2 ≤ f → tget 9 M a = cI 0 Na p ov → tget 9 M b = cI 0 Nb p' ov' →
    ∃ M2, cpR call E n a a0 b b0 f 1 k M = some [((1, 0), E, vW 3, [], [], M2, n, 0)] ∧ (∀ i, i < 512 → i ≠ b → tget 9 M2 i = tget 9 M i) ∧ ∃ p2 ov2, tget 9 M2 b = cI 0 Nb p2 ov2 ∧ ∀ j, b0 + k ≤ j → j < b0 + 627 → smV (aget p2 ov2 j) (aget p ov (a0 + (j - b0))) := by
  suffices H : ∀ (d k f p' : Nat) (ov' : List (Nat × AV)) (M : Mem), k + d = 627 → 2 * d + 2 ≤ f → tget 9 M a = cI 0 Na p ov → tget 9 M b = cI 0 Nb p' ov' →
      ∃ M2, cpR call E n a a0 b b0 f 1 k M = some [((1, 0), E, vW 3, [], [], M2, n, 0)] ∧ (∀ i, i < 512 → i ≠ b → tget 9 M2 i = tget 9 M i) ∧ ∃ p2 ov2, tget 9 M2 b = cI 0 Nb p2 ov2 ∧ ∀ j, smV (aget p2 ov2 j) (if b0 + k ≤ j ∧ j < b0 + 627 then aget p ov (a0 + (j - b0)) else aget p' ov' j) by
    intro d k f p' ov' M q1 q2 q3 q4
    obtain ⟨M2, g1, g2, p2, ov2, g3, g4⟩ := H d k f p' ov' M q1 q2 q3 q4
    exact ⟨M2, g1, g2, p2, ov2, g3, fun j q5 q6 => by have := g4 j; rw [if_pos ⟨q5, q6⟩] at this; exact this⟩
  intro d
  induction d with
  | zero =>
    intro k f p' ov' M hk hf hA hB
    have hk' : k = 627 := by omega
    subst hk'
    obtain ⟨f, rfl⟩ : ∃ f', f = f' + 1 + 1 := ⟨f - 2, by omega⟩
    refine ⟨M, by rw [cp_end, cp_ret], fun i _ _ => rfl, p', ov', hB, fun j => ?_⟩
    rw [if_neg (by omega)]
    exact fun _ _ _ => Iff.rfl
  | succ d ih =>
    intro k f p' ov' M hk hf hA hB
    obtain ⟨f, rfl⟩ : ∃ f', f = f' + 1 + 1 := ⟨f - 2, by omega⟩
    obtain ⟨p3, ov3, e1, e2⟩ := cp_step (call := call) (E := E) (n := n) (a0 := a0) (b0 := b0) (f := f) (k := k) hA hB (by omega) (by omega) h3 h4 (by omega) (hi _)
    have hA' : tget 9 (tset 9 M b (cI 0 Nb p3 ov3)) a = cI 0 Na p ov := by rw [tget_tset 9 M b a _ hb ha, if_neg hab]; exact hA
    have hB' : tget 9 (tset 9 M b (cI 0 Nb p3 ov3)) b = cI 0 Nb p3 ov3 := by rw [tget_tset 9 M b b _ hb hb, if_pos rfl]
    obtain ⟨M2, g1, g2, p2, ov2, g3, g4⟩ := ih (k + 1) f p3 ov3 (tset 9 M b (cI 0 Nb p3 ov3)) (by omega) (by omega) hA' hB'
    refine ⟨M2, by rw [cp_test _ _ _ (by omega), e1, g1], fun i hi9 hib => ?_, p2, ov2, g3, fun j => ?_⟩
    · rw [g2 i hi9 hib, tget_tset 9 M b i _ hb hi9, if_neg hib]
    · refine smV_trans (g4 j) ?_
      by_cases q : b0 + (k + 1) ≤ j ∧ j < b0 + 627
      · rw [if_pos q, if_pos (by omega)]
        exact fun _ _ _ => Iff.rfl
      · rw [if_neg q]
        refine smV_trans (e2 j) ?_
        by_cases q2 : j = b0 + k
        · rw [if_pos q2, if_pos (by omega), q2]
          have : b0 + k - b0 = k := by omega
          rw [this]
          exact fun _ _ _ => Iff.rfl
        · rw [if_neg q2, if_neg (by omega)]
          exact fun _ _ _ => Iff.rfl
end COPY
noncomputable def oki (ov : List (Nat × AV)) : Bool := List.rec true (fun q _ ih => Bool.rec false ih (isI q.2)) ov
theorem oki_get {p : Nat} : ∀ {ov : List (Nat × AV)}, oki ov = true → ∀ j, isI (aget p ov j) = true := by
  intro ov
  induction ov with
  | nil => intro _ j; rfl
  | cons q ov ih =>
    intro h j
    have h9 : (Bool.rec false (oki ov) (isI q.2) : Bool) = true := h
    cases h1 : isI q.2 with
    | false => rw [h1] at h9; cases h9
    | true =>
      rw [h1] at h9
      rw [aget_cons]
      by_cases e : q.1 = j
      · rw [if_pos e]; exact h1
      · rw [if_neg e]; exact ih h9 j
abbrev AC : Type := Nat × Nat × Nat × List (Nat × AV)
noncomputable def cpC (a0 b0 : Nat) (q w : AC) : Cel := Bool.rec (axC w.2.1) (Bool.rec (axC w.2.1) (Bool.rec (axC w.2.1) (Bool.rec (axC w.2.1) (cI 0 627 q.2.2.1 q.2.2.2) (Nat.beq w.2.1 627)) (Nat.beq q.2.1 627)) (Nat.beq b0 0)) (Nat.beq a0 0)
noncomputable def cpB (E : Env9) (n : Nat) (as : List AV) (M : Mem) : OR := match as with
  | .inr (.inl a) :: t1 => (match t1 with
    | .inl a0 :: t2 => (match t2 with
      | .inr (.inl b) :: t3 => (match t3 with
        | .inl b0 :: t4 => (match t4 with
          | [] => (match tget 9 M a with
            | .inr (.inl q) => (match tget 9 M b with
              | .inr (.inl w) => gd (Nat.beq q.1 0) (gd (Nat.beq w.1 0) (gd (oki q.2.2.2) (gd (Nat.ble (a0 + 627) q.2.1) (gd (Nat.ble (b0 + 627) w.2.1) (gd (Nat.ble q.2.1 100000) (gd (Nat.ble w.2.1 100000) (gd (Nat.ble (a + 1) 512) (gd (Nat.ble (b + 1) 512) (gd (Bool.rec true false (Nat.beq a b)) (some [((1, 0), E, vW 3, [], [], tset 9 M b (cpC a0 b0 q w), n, 0)]))))))))))
              | _ => none)
            | _ => none)
          | _ => none)
        | _ => none)
      | _ => none)
    | _ => none)
  | _ => none
noncomputable def cpS (yi : Nat) : Sm := fun y E n as M => Bool.rec none (cpB E n as M) (Nat.beq y yi)
theorem cp_mem {D : va_G} {s : State} {G : Gam} {A : Nat → Prop} {ρ : List Nat} {n : Nat} {M M2 : Mem} {H : Heap} {b : Nat} {c : Cel} (hb : b < 512) (hk : ∀ i, i < 512 → i ≠ b → tget 9 M2 i = tget 9 M i) (hc : ∀ e, celR s G ρ (tget 9 M2 b) e → celR s G ρ c e) (hM : memR D s G A ρ n M2 H) : memR D s G A ρ n (tset 9 M b c) H := by
  obtain ⟨ws, h1, h2, h3, h4, h5, h6⟩ := hM
  refine ⟨ws, h1, h2, h3, fun k q hk9 => ⟨(h4 k q hk9).1, ?_⟩, h5, h6⟩
  have hk8 : k < 512 := by
    have := (List.getElem?_eq_some_iff.mp hk9).1
    omega
  rw [tget_tset 9 M b k c hb hk8]
  by_cases e : k = b
  · rw [if_pos e]; rw [e] at hk9; exact hc _ (h4 b q hk9).2
  · rw [if_neg e, ← hk k hk8 e]; exact (h4 k q hk9).2
theorem cpS_ok {l : Launch} {D : va_G} {G : Gam} {A : Nat → Prop} (hst : l.stackTraces = false) : SmOK l D G A (cpS 178) := by
  intro y E n as M rs h
  unfold cpS at h
  cases hy : Nat.beq y 178 with
  | false => rw [hy] at h; cases h
  | true =>
    rw [hy] at h
    have h : cpB E n as M = some rs := h
    unfold cpB at h
    rw [Nat.eq_of_beq_eq_true hy]
    rcases as with _ | ⟨x1, t1⟩
    · cases h
    rcases x1 with x | a | x | x | x | x | x | x
    · cases h
    · rcases t1 with _ | ⟨x2, t2⟩
      · cases h
      rcases x2 with a0 | x | x | x | x | x | x | x
      · rcases t2 with _ | ⟨x3, t3⟩
        · cases h
        rcases x3 with x | b | x | x | x | x | x | x
        · cases h
        · rcases t3 with _ | ⟨x4, t4⟩
          · cases h
          rcases x4 with b0 | x | x | x | x | x | x | x
          · rcases t4 with _ | ⟨x5, t5⟩
            · rcases hA : tget 9 M a with q | q | q | q
              · simp only [hA] at h; cases h
              · rcases hB : tget 9 M b with w | w | w | w
                · simp only [hA, hB] at h; cases h
                · simp only [hA, hB] at h
                  obtain ⟨k1, h⟩ := gd_some h
                  obtain ⟨k2, h⟩ := gd_some h
                  obtain ⟨k3, h⟩ := gd_some h
                  obtain ⟨k4, h⟩ := gd_some h
                  obtain ⟨k5, h⟩ := gd_some h
                  obtain ⟨k6, h⟩ := gd_some h
                  obtain ⟨k7, h⟩ := gd_some h
                  obtain ⟨k8, h⟩ := gd_some h
                  obtain ⟨k9, h⟩ := gd_some h
                  obtain ⟨k10, h⟩ := gd_some h
                  obtain rfl := (Option.some.inj h).symm
                  obtain ⟨q1, Na, p, ov⟩ := q
                  obtain ⟨w1, Nb, p', ov'⟩ := w
                  have e1 : q1 = 0 := Nat.eq_of_beq_eq_true k1
                  have e2 : w1 = 0 := Nat.eq_of_beq_eq_true k2
                  subst e1; subst e2
                  have hab : a ≠ b := by
                    intro e
                    rw [e, Nat.beq_refl] at k10
                    cases k10
                  have hb : b < 512 := Nat.le_of_ble_eq_true k9
                  obtain ⟨M2, g1, g2, p2, ov2, g3, g4⟩ := cp_loop (call := runM 0) (E := E) (n := n) (a0 := a0) (b0 := b0) hab (Nat.le_of_ble_eq_true k8) hb (Nat.le_of_ble_eq_true k4) (Nat.le_of_ble_eq_true k5) (Nat.le_of_ble_eq_true k6) (Nat.le_of_ble_eq_true k7) (oki_get (p := p) k3) 627 0 99999 p' ov' M (by omega) (by omega) hA hB
                  have hbo : bo_X11_copies (runM 0) E n [vR a, vI a0, vR b, vI b0] M = some [((1, 0), E, vW 3, [], [], M2, n, 0)] := (cp_0 99999 M).trans g1
                  have hm := bq_X11_copies (l := l) (D := D) (G := G) (A := A) hst (runM_ok hst 0) E n [vR a, vI a0, vR b, vI b0] M _ hbo
                  refine mok_imp hm (fun h => h) (fun _ _ _ h => h) (fun _ _ _ _ h => h) (fun r hr hE hE2 => ?_)
                  rw [List.mem_singleton] at hr
                  subst hr
                  refine ⟨_, List.mem_singleton.mpr rfl, rfl, hE, fun _ _ h => h, fun s ρ H hM => ?_⟩
                  refine cp_mem hb g2 (fun e hc => ?_) hM
                  rw [g3] at hc
                  have hax : celR s G ρ (axC Nb) e := axC_R rfl hc
                  show celR s G ρ (Bool.rec (axC Nb) (Bool.rec (axC Nb) (Bool.rec (axC Nb) (Bool.rec (axC Nb) (cI 0 627 p ov) (Nat.beq Nb 627)) (Nat.beq Na 627)) (Nat.beq b0 0)) (Nat.beq a0 0)) e
                  cases c1 : Nat.beq a0 0 with
                  | false => exact hax
                  | true =>
                    cases c2 : Nat.beq b0 0 with
                    | false => exact hax
                    | true =>
                      cases c3 : Nat.beq Na 627 with
                      | false => exact hax
                      | true =>
                        cases c4 : Nat.beq Nb 627 with
                        | false => exact hax
                        | true =>
                          have d1 : a0 = 0 := Nat.eq_of_beq_eq_true c1
                          have d2 : b0 = 0 := Nat.eq_of_beq_eq_true c2
                          have d4 : Nb = 627 := Nat.eq_of_beq_eq_true c4
                          subst d1; subst d2; subst d4
                          obtain ⟨cA, f, f1, f2, f3, f4, f5⟩ := hc
                          refine ⟨cA, f, f1, f2, f3, f4, fun j hj => ?_⟩
                          have hj' : j < 627 := hj
                          have := (g4 j (by omega) (by omega) G ρ (.int (f j))).mp (f5 j hj)
                          rw [show 0 + (j - 0) = j by omega] at this
                          exact this

                · simp only [hA, hB] at h; cases h
                · simp only [hA, hB] at h; cases h
              · simp only [hA] at h; cases h
              · simp only [hA] at h; cases h
            · cases h
          all_goals cases h
        all_goals cases h
      all_goals cases h
    all_goals cases h
/-! a table over the number 2 -/
abbrev fu9 : Nat × Nat := (0, 4294967295)
/-- the script's numbers 1 and 2, the remainder, the answer -/
noncomputable def mkE (a b r o : Nat × Nat) : Env9 := [fu9, a, b, fu9, fu9, fu9, r, fu9, o, fu9, fu9, fu9]
theorem mkE_R {G : Gam} {a b r o : Nat × Nat} (h6 : G.1 6 = G.1 1 - G.1 1 / 3 * 3) (ha : a.1 ≤ bi (toN (G.1 1)) ∧ bi (toN (G.1 1)) ≤ a.2) (hb : b.1 ≤ bi (toN (G.1 2)) ∧ bi (toN (G.1 2)) ≤ b.2) (hr : r.1 ≤ bi (toN (G.1 6)) ∧ bi (toN (G.1 6)) ≤ r.2) (ho : o.1 ≤ bi (toN (G.1 8)) ∧ bi (toN (G.1 8)) ≤ o.2) : envR G (mkE a b r o) := by
  refine ⟨fun i => ?_, h6⟩
  have hf : ∀ i, 0 ≤ bi (toN (G.1 i)) ∧ bi (toN (G.1 i)) ≤ 4294967295 := fun i => ⟨Nat.zero_le _, bi_le _⟩
  rcases i with _ | _ | _ | _ | _ | _ | _ | _ | _ | _ | _ | _ | i
  · exact hf _
  · exact ha
  · exact hb
  · exact hf _
  · exact hf _
  · exact hf _
  · exact hr
  · exact hf _
  · exact ho
  · exact hf _
  · exact hf _
  · exact hf _
  · exact hf _
noncomputable def enF (ix lb hi : Nat) : Env9 := Bool.rec (mkE (2147483648 + lb, 2147483648 + hi) fu9 fu9 fu9) (mkE fu9 (2147483648 + lb, 2147483648 + hi) fu9 fu9) (Nat.beq ix 2)
theorem enF_R {G : Gam} {ix lb hi : Nat} (hix : ix = 1 ∨ ix = 2) (h6 : G.1 6 = G.1 1 - G.1 1 / 3 * 3) (h : 2147483648 + lb ≤ bi (toN (G.1 ix)) ∧ bi (toN (G.1 ix)) ≤ 2147483648 + hi) : envR G (enF ix lb hi) := by
  have hfu : ∀ x : Int32, fu9.1 ≤ bi (toN x) ∧ bi (toN x) ≤ fu9.2 := fun x => ⟨Nat.zero_le _, bi_le _⟩
  rcases hix with rfl | rfl
  · exact mkE_R h6 h (hfu _) (hfu _) (hfu _)
  · exact mkE_R h6 (hfu _) h (hfu _) (hfu _)
noncomputable def endB (ix : Nat) (t : Nat → Ent) (r : Res) : Bool := Bool.rec false (Bool.rec false (fN ((nthE r.2.1 ix).1 - 2147483648) fun d => decide (r.1 = ((t d).1, 0)) && (eAV r.2.2.1 (t d).2.1 && (Nat.beq r.2.2.2.2.2.2.1 466 && (wkL E0 r.2.2.2.2.2.1 (t d).2.2.2 && lt9 (t d).2.2.2)))) (Nat.beq (nthE r.2.1 ix).1 (nthE r.2.1 ix).2)) (Nat.ble 2147483648 (nthE r.2.1 ix).1)
noncomputable def chkF (ix : Nat) (t : Nat → Ent) (rs : List Res) : Bool := List.rec true (fun r _ ih => Bool.rec false ih (endB ix t r)) rs
noncomputable def chkO (ix : Nat) (t : Nat → Ent) (o : OR) : Bool := match o with | some rs => chkF ix t rs | none => false
/-- the forked run stands -/
noncomputable def forB (ix : Nat) (c : Call) (y : Nat) (a0 : AV) (lb hi : Nat) (t : Nat → Ent) (bef : Lst) : Bool := Bool.rec false (chkO ix t (c y (enF ix lb hi) 466 [a0, vX (some (ix, 0))] (setL bef))) (lt9 bef)
noncomputable def forS (ix y : Nat) (a0 : AV) (lb hi : Nat) (t : Nat → Ent) (bef : Lst) : Sm := fun y' E n as M => Bool.rec none (fN (nthE E ix).1 fun lo => gd (Nat.beq lo (nthE E ix).2) (gd (Nat.ble (2147483648 + lb) lo) (gd (Nat.ble lo (2147483648 + hi)) (gd (Nat.beq n 466) (fN (lo - 2147483648) fun d => gd (eL as [a0, vI d]) (gd (wkL E M bef) (some [(((t d).1, 0), E, (t d).2.1, [], [], setL (t d).2.2.2, 466, 0)]))))))) (Nat.beq y' y)
theorem chkF_mem {ix : Nat} {t : Nat → Ent} : ∀ {rs : List Res}, chkF ix t rs = true → ∀ r ∈ rs, endB ix t r = true := by
  intro rs
  induction rs with
  | nil => intro _ r h; cases h
  | cons a l ih =>
    intro h r hr
    have h9 : (Bool.rec false (chkF ix t l) (endB ix t a) : Bool) = true := h
    cases h1 : endB ix t a with
    | false => rw [h1] at h9; cases h9
    | true =>
      rw [h1] at h9
      rcases List.mem_cons.mp hr with h2 | h2
      · rw [h2]; exact h1
      · exact ih h9 r h2
theorem endB_is {ix : Nat} {t : Nat → Ent} {r : Res} (h : endB ix t r = true) : 2147483648 ≤ (nthE r.2.1 ix).1 ∧ Nat.beq (nthE r.2.1 ix).1 (nthE r.2.1 ix).2 = true ∧ r.1 = ((t ((nthE r.2.1 ix).1 - 2147483648)).1, 0) ∧ r.2.2.1 = (t ((nthE r.2.1 ix).1 - 2147483648)).2.1 ∧ r.2.2.2.2.2.2.1 = 466 ∧ wkL E0 r.2.2.2.2.2.1 (t ((nthE r.2.1 ix).1 - 2147483648)).2.2.2 = true ∧ lt9 (t ((nthE r.2.1 ix).1 - 2147483648)).2.2.2 = true := by
  unfold endB at h
  cases k1 : Nat.ble 2147483648 (nthE r.2.1 ix).1 with
  | false => rw [k1] at h; cases h
  | true =>
    rw [k1] at h
    cases k2 : Nat.beq (nthE r.2.1 ix).1 (nthE r.2.1 ix).2 with
    | false => rw [k2] at h; cases h
    | true =>
      rw [k2] at h
      have h' : fN ((nthE r.2.1 ix).1 - 2147483648) (fun d => decide (r.1 = ((t d).1, 0)) && (eAV r.2.2.1 (t d).2.1 && (Nat.beq r.2.2.2.2.2.2.1 466 && (wkL E0 r.2.2.2.2.2.1 (t d).2.2.2 && lt9 (t d).2.2.2)))) = true := h
      rw [fN_eq] at h'
      obtain ⟨h1, h0⟩ := Bool.and_eq_true_iff.mp h'
      obtain ⟨h2, h0⟩ := Bool.and_eq_true_iff.mp h0
      obtain ⟨h3, h0⟩ := Bool.and_eq_true_iff.mp h0
      obtain ⟨h4, h5⟩ := Bool.and_eq_true_iff.mp h0
      exact ⟨Nat.le_of_ble_eq_true k1, rfl, of_decide_eq_true h1, eAV_eq h2, Nat.eq_of_beq_eq_true h3, h4, h5⟩
theorem forS_ok {l : Launch} {ix : Nat} (hix : ix = 1 ∨ ix = 2) {D : va_G} {G : Gam} {A : Nat → Prop} {c : Call} (hc : CallOK l D G A infT c) {y lb hi : Nat} {a0 : AV} {t : Nat → Ent} {bef : Lst} (hB : forB ix c y a0 lb hi t bef = true) : SmOK l D G A (forS ix y a0 lb hi t bef) := by
  intro y' E n as M rs h
  unfold forS at h
  cases h1 : Nat.beq y' y with
  | false => rw [h1] at h; cases h
  | true =>
    rw [h1] at h
    have h' : fN (nthE E ix).1 (fun lo => gd (Nat.beq lo (nthE E ix).2) (gd (Nat.ble (2147483648 + lb) lo) (gd (Nat.ble lo (2147483648 + hi)) (gd (Nat.beq n 466) (fN (lo - 2147483648) fun d => gd (eL as [a0, vI d]) (gd (wkL E M bef) (some [(((t d).1, 0), E, (t d).2.1, [], [], setL (t d).2.2.2, 466, 0)]))))))) = some rs := h
    rw [fN_eq] at h'
    obtain ⟨k1, h'⟩ := gd_some h'
    obtain ⟨k2, h'⟩ := gd_some h'
    obtain ⟨k3, h'⟩ := gd_some h'
    obtain ⟨k4, h'⟩ := gd_some h'
    rw [fN_eq] at h'
    obtain ⟨k5, h'⟩ := gd_some h'
    obtain ⟨k6, h'⟩ := gd_some h'
    obtain rfl := (Option.some.inj h').symm
    rw [Nat.eq_of_beq_eq_true h1]
    have kn : n = 466 := Nat.eq_of_beq_eq_true k4
    subst kn
    have ka := eL_eq _ _ k5
    have l1 := Nat.le_of_ble_eq_true k2
    have l2 := Nat.le_of_ble_eq_true k3
    unfold forB at hB
    cases k7 : lt9 bef with
    | false => rw [k7] at hB; cases hB
    | true =>
      rw [k7] at hB
      have hB' : chkO ix t (c y (enF ix lb hi) 466 [a0, vX (some (ix, 0))] (setL bef)) = true := hB
      cases hrun : c y (enF ix lb hi) 466 [a0, vX (some (ix, 0))] (setL bef) with
      | none => rw [hrun] at hB'; cases hB'
      | some rs =>
        rw [hrun] at hB'
        have hF : chkF ix t rs = true := hB'
        have hfu : ∀ x : Int32, fu9.1 ≤ bi (toN x) ∧ bi (toN x) ≤ fu9.2 := fun x => ⟨Nat.zero_le _, bi_le _⟩
        have hpt : envR G E → bi (toN (G.1 ix)) = (nthE E ix).1 := fun hE => by
          have q1 := hE.1 ix
          have q2 := Nat.eq_of_beq_eq_true k1
          omega
        refine mok_imp (hc y _ 466 _ (setL bef) rs hrun) (fun hE => enF_R hix hE.2 ⟨by rw [hpt hE]; exact l1, by rw [hpt hE]; exact l2⟩) (fun ρ vals hE hv => ?_) (fun s ρ H hE hM => wk_mem hE k7 k6 hM) (fun r hr hE hE2 => ?_)
        · rw [ka] at hv
          obtain ⟨v1, w1, rfl, g1, g2⟩ := czs_cons hv
          obtain ⟨v2, w2, rfl, g3, g4⟩ := czs_cons g2
          refine ⟨g1, ?_, g4⟩
          have e1 := envR_pt hE k1
          have e2 : bi (nthE E ix).1 = (nthE E ix).1 - 2147483648 := by
            have q3 := bi_le (toN (G.1 ix))
            have q4 := hpt hE
            unfold bi at q3 q4 ⊢
            omega
          show v2 = .int (G.1 ix + nI 0)
          rw [e1, e2]
          have g3' : v2 = .int (nI ((nthE E ix).1 - 2147483648)) := g3
          rw [g3']
          show Value.int _ = .int (_ + 0)
          simp
        · obtain ⟨m1, m2, m3, m4, m5, m6, m7⟩ := endB_is (chkF_mem hF r hr)
          have e3 : (nthE r.2.1 ix).1 = (nthE E ix).1 := by
            have q1 := hE2.1 ix
            have q2 := Nat.eq_of_beq_eq_true m2
            have q3 := hpt hE
            omega
          rw [e3] at m3 m4 m6 m7
          refine ⟨_, List.mem_singleton.mpr rfl, m3.symm, hE, fun ρ v hv => ?_, fun s ρ H hM => ?_⟩
          · have f1 : r.1.1 = (t ((nthE E ix).1 - 2147483648)).1 := by rw [m3]
            unfold valR at hv ⊢
            rw [f1, m4] at hv
            exact hv
          · rw [m5] at hM
            exact wk_mem (E0_ok G hE.2) m7 m6 hM
