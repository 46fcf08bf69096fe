/-! the reference's executeCommands up to its commands, by hand -/
theorem c3_neB {u w : Nat} {a b : OR} (h : u ≠ w) : c3 u w a b a = a := by
  show (Bool.rec (Bool.rec a b (Nat.beq u w)) a (Nat.ble (u + 1) w) : OR) = a
  cases h1 : Nat.ble (u + 1) w with
  | true => rfl
  | false =>
    cases h2 : Nat.beq u w with
    | true => exact absurd (Nat.eq_of_beq_eq_true h2) h
    | false => rfl
theorem c3_sameX {u w : Nat} {a b c : OR} (h : u = w) : c3 u w a b c = b := by
  subst h
  show (Bool.rec (Bool.rec c b (Nat.beq u u)) a (Nat.ble (u + 1) u) : OR) = b
  rw [Nat.beq_refl]
  cases h1 : Nat.ble (u + 1) u with
  | false => rfl
  | true => have := Nat.le_of_ble_eq_true h1; omega
theorem bi_neX {x y : Nat} (hx : x < 4294967296) (hy : y < 4294967296) (h : x ≠ y) : bi x ≠ bi y := fun w => h (by rw [← bi_bi9 hx, w, bi_bi9 hy])
section XR1
variable {call : Call} {j : Jmp} {t : Trm} {l : List Op1} {E : Env9} {n z : Nat} {L S : List AV} {M : Mem}
theorem rb_getI {a ci i : Nat} {q : Nat × List Nat} (hT : TS M) (ha : a < 466) (hs : sh0 (kd0 a) = .inl q) (hc : q.1 = ci) (hi : q.2[i]? = some 0) : runB call j t (op_getf ci i :: l) E n z L (vR a :: S) M = runB call j t l E n z L (vI (rN M a i) :: S) M := by
  obtain ⟨fs, e1, e2, e3⟩ := co_obj (bd := bdF) hT ha hs
  obtain ⟨x, x1, -, -⟩ := e3 i 0 hi
  have b : rN M a i = x := by
    show rNc (tget 9 M a) i = x
    rw [e1]
    show rN1 (nth fs i) = x
    rw [x1]
    rfl
  rw [b, ← x1]
  subst hc
  exact rb_getfB e1 (by rw [e2]; exact len_at hi)
end XR1
theorem rb_putI {M : Mem} {a ci i x : Nat} {q : Nat × List Nat} (hT : TS M) (ha : a < 466) (hs : sh0 (kd0 a) = .inl q) (hc : q.1 = ci) (hi : q.2[i]? = some 0) (hx : x < 4294967296) : ∃ M', (∀ (call : Call) (j : Jmp) (t : Trm) (l : List Op1) (E : Env9) (n z : Nat) (L S : List AV), runB call j t (op_putf (fP 0) ci i :: l) E n z L (vI x :: vR a :: S) M = runB call j t l E n z L S M') ∧ TS M' ∧ Vws M' (vup (rN M) a i x) := by
  obtain ⟨fs, e1, e2, e3⟩ := co_obj (bd := bdF) hT ha hs
  subst hc
  have hl : i < fs.length := by rw [e2]; exact len_at hi
  refine ⟨tset 9 M a (cO q.1 (nst fs i (vI x))), fun call j t l E n z L S => (op_putf_n (call := call) (K := runB call j t l) (show fP 0 (vI x) = true from rfl) e1 hl : op_putf (fP 0) q.1 i call (runB call j t l) E n z L (vI x :: vR a :: S) M = _), ?_, ?_⟩
  · refine ti_set hT ha ?_
    unfold cOK
    rw [hs]
    exact ⟨_, rfl, by rw [nst_len]; exact e2, fOK_nst e3 (fun ft' h' => by rw [hi] at h'; cases h'; exact ⟨x, rfl, hx, sg_any x⟩)⟩
  · refine vws_set (fun _ _ _ => rfl) ha ?_ (fun i' h' => ?_)
    · show rN1 (nth (nst fs i (vI x)) i) = x
      rw [nth_nst, if_pos ⟨rfl, hl⟩]
      rfl
    · rw [e1]
      show rN1 (nth (nst fs i (vI x)) i') = rN1 (nth fs i')
      rw [nth_nst, if_neg (fun w => h' w.1)]
theorem vrun {Ev : Env9} {k D y : Nat} {as : List AV} {M : Mem} {e0 : Nat × Nat} {v0 : AV} {g : Vw} (hD : D + 5 ≤ k) (hw : WL as) (hT : TS M) (hv : vM MT0 D y as (rN M) = some (e0, v0, g)) : ∃ (v : AV) (S L : List AV) (M' : Mem) (z : Nat), runM k y Ev 466 as M = some [(e0, Ev, v, S, L, M', 466, z)] ∧ (e0.1 = 0 → v = v0) ∧ TS M' ∧ Vws M' g := by
  obtain ⟨v, S, L, M', z, e, hv', ht, hf⟩ := vM_ok (E := Ev) D k hD y as (rN M) M (e0, v0, g) hw hT (fun _ _ _ => rfl) hv
  exact ⟨v, S, L, M', z, e, fun h => (hv' h).1, ht, hf⟩
theorem rs_ws {n c d p : Nat} {T : Nat → Nat} {E V : Nat → Nat → Nat} {g : Vw} {M : Mem} (h : RS n T E V c d p g) (hw : Vws M g) : RS n T E V c d p (rN M) := rs_of h (hw 452 (by decide) 16) (fun i => hw 462 (by decide) i) ((hw 452 (by decide) 17).trans h.at_) h.le (hw 452 (by decide) 20) (hw 452 (by decide) 21) (hw 453 (by decide) 0) (hw 453 (by decide) 1) (fun i _ _ => hw 453 (by decide) i) (fun i _ _ => hw 453 (by decide) i)
theorem err_ws {e q : Nat} {g : Vw} {M : Mem} (h : ERR e q g) (hw : Vws M g) : ERR e q (rN M) := ⟨(hw 452 (by decide) 20).trans h.1, (hw 452 (by decide) 21).trans h.2.1, h.2.2⟩
theorem so452X : ∃ q, sh0 (kd0 452) = .inl q ∧ q.1 = 11 ∧ q.2[20]? = some 0 ∧ q.2[25]? = some 0 := ⟨_, rfl, rfl, rfl, rfl⟩
theorem wlR : WL [vR 452] := wl_k (v := vR 452) trivial vwl_0
section XR2
variable {Ev : Env9} {k d9 : Nat} {ct : TrT Blk d9} {y : AV} {M : Mem}
theorem zb_0 (h : MdC mdZ d9 ct) : tget d9 ct 0 = ([op_ld (fP 2) 0, op_call (gN 14) 243 1 0 0, op_ld (fP 2) 0, op_push (vI 0), op_putf (fP 0) 11 25], tm_goto 1) := h 0 _ rfl
theorem zb_1 (h : MdC mdZ d9 ct) : tget d9 ct 1 = ([op_ld (fP 2) 0, op_getf 11 20], tm_if 4 2 4) := h 1 _ rfl
theorem zb_2 (h : MdC mdZ d9 ct) : tget d9 ct 2 = ([op_ld (fP 2) 0, op_call (gN 14) 229 1 0 0, op_push (vI 4294967295)], tm_icmp 3 4 3) := h 2 _ rfl
theorem zb_3 (h : MdC mdZ d9 ct) : tget d9 ct 3 = ([op_ld (fP 2) 0, op_call (gN 14) 256 1 0 0], tm_goto 1) := h 3 _ rfl
theorem zb_4 (h : MdC mdZ d9 ct) : tget d9 ct 4 = ([op_ld (fP 2) 0, op_ld (fP 2) 0, op_call (gN 14) 244 1 0 0, op_call (gN 14) 176 2 0 0], tm_if 6 5 6) := h 4 _ rfl
theorem zb_5 (h : MdC mdZ d9 ct) : tget d9 ct 5 = ([op_push (vI 0)], tm_ret (fP 0) 0) := h 5 _ rfl
theorem gvT {as : List AV} (hT : TS M) : gV 11 (vR 452 :: as) M = true := by
  obtain ⟨q, h1, h2, -⟩ := so452X
  obtain ⟨fs, e, -, -⟩ := co_obj (bd := bdF) hT (show 452 < 466 by decide) h1
  show (match tget 9 M 452 with | .inl q => Nat.beq q.1 11 | _ => false : Bool) = true
  rw [e, ← h2]
  exact Nat.beq_refl _
theorem go_12 (hm : MdC mdZ d9 ct) (hT : TS M) (he : rN M 452 20 = 0) (f : Nat) : runF (runM k) d9 ct (f + 1) 1 Ev 466 0 [vR 452, y] [] M = runF (runM k) d9 ct f 2 Ev 466 0 [vR 452, y] [] M := by
  obtain ⟨q, h1, h2, h3, -⟩ := so452X
  rw [rF9 f (zb_1 hm)]
  refine (rb_ld rfl).trans ((rb_getI hT (by decide) h1 h2 h3).trans ?_)
  rw [he]
  exact rb_if.trans (c3_sameX rfl)
theorem go_14 (hm : MdC mdZ d9 ct) (hT : TS M) (he : rN M 452 20 ≠ 0) (hl : rN M 452 20 < 4294967296) (f : Nat) : runF (runM k) d9 ct (f + 1) 1 Ev 466 0 [vR 452, y] [] M = runF (runM k) d9 ct f 4 Ev 466 0 [vR 452, y] [] M := by
  obtain ⟨q, h1, h2, h3, -⟩ := so452X
  rw [rF9 f (zb_1 hm)]
  refine (rb_ld rfl).trans ((rb_getI hT (by decide) h1 h2 h3).trans ?_)
  exact rb_if.trans (c3_neB (bi_neX hl (by decide) he))
theorem go_23 (hm : MdC mdZ d9 ct) (hT : TS M) {x z : Nat} {S L : List AV} {M1 : Mem} (e : runM k 229 Ev 466 [vR 452] M = some [((0, 0), Ev, vI x, S, L, M1, 466, z)]) (hx : x < 4294967296) (hn : x ≠ 4294967295) (f : Nat) : runF (runM k) d9 ct (f + 1) 2 Ev 466 0 [vR 452, y] [] M = runF (runM k) d9 ct f 3 Ev 466 0 [vR 452, y] [] M1 := by
  rw [rF9 f (zb_2 hm)]
  refine (rb_ld rfl).trans ((rb_callB (as := [vR 452]) (rest := []) rfl rfl rfl (by decide) (gvT hT) e).trans (rb_push.trans ?_))
  exact rb_icmp.trans (c3_neB (bi_neX hx (by decide) hn))
theorem go_24 (hm : MdC mdZ d9 ct) (hT : TS M) {z : Nat} {S L : List AV} {M1 : Mem} (e : runM k 229 Ev 466 [vR 452] M = some [((0, 0), Ev, vI 4294967295, S, L, M1, 466, z)]) (f : Nat) : runF (runM k) d9 ct (f + 1) 2 Ev 466 0 [vR 452, y] [] M = runF (runM k) d9 ct f 4 Ev 466 0 [vR 452, y] [] M1 := by
  rw [rF9 f (zb_2 hm)]
  refine (rb_ld rfl).trans ((rb_callB (as := [vR 452]) (rest := []) rfl rfl rfl (by decide) (gvT hT) e).trans (rb_push.trans ?_))
  exact rb_icmp.trans (c3_sameX rfl)
theorem go_31 (hm : MdC mdZ d9 ct) (hT : TS M) {v : AV} {z : Nat} {S L : List AV} {M1 : Mem} (e : runM k 256 Ev 466 [vR 452] M = some [((1, 0), Ev, v, S, L, M1, 466, z)]) (f : Nat) : runF (runM k) d9 ct (f + 1) 3 Ev 466 0 [vR 452, y] [] M = runF (runM k) d9 ct f 1 Ev 466 0 [vR 452, y] [] M1 := by
  rw [rF9 f (zb_3 hm)]
  exact (rb_ld rfl).trans ((rb_callV (as := [vR 452]) (rest := []) rfl rfl rfl (by decide) (gvT hT) e).trans rb_goto9)
/-- what stands told -/
def TLD (c d i : Nat) (f : Vw) : Prop := ∀ j, j < i → ∃ v, v < 7 ∧ f 463 (3 * j) = v ∧ TVal c d v (f 463 (3 * j + 1)) (f 463 (3 * j + 1 + 1))
def FrX (f g : Vw) : Prop := (∀ a b, a < 466 → a ≠ 452 → a ≠ 463 → g a b = f a b) ∧ ∀ b, b < 17 ∨ (21 < b ∧ b ≠ 25) → g 452 b = f 452 b
theorem frX_tr {f g h : Vw} (h1 : FrX f g) (h2 : FrX g h) : FrX f h := ⟨fun a b q1 q2 q3 => (h2.1 a b q1 q2 q3).trans (h1.1 a b q1 q2 q3), fun b w => (h2.2 b w).trans (h1.2 b w)⟩
theorem zx_loop (hm : MdC mdZ d9 ct) (hk : 20 ≤ k) {n c d : Nat} {T : Nat → Nat} {E V : Nat → Nat → Nat} : ∀ (m p i : Nat) (M : Mem), i + m = 30 → RS n T E V c d p (rN M) → rN M 452 25 = i → TS M → TLD c d i (rN M) → ∃ (F : Nat) (M' : Mem), F ≤ 3 * m + 6 ∧ (∀ f, runF (runM k) d9 ct (f + F) 1 Ev 466 0 [vR 452, y] [] M = runF (runM k) d9 ct f 4 Ev 466 0 [vR 452, y] [] M') ∧ TS M' ∧ ((oCm T (fun j => E j 0) c (fun j => V j 0) d m p).1 = 0 → ∃ q i', RS n T E V c d q (rN M') ∧ i' ≤ 30 ∧ rN M' 452 25 = i' ∧ TLD c d i' (rN M') ∧ FrX (rN M) (rN M') ∧ rN M' 452 18 ≤ 900 ∧ rN M' 452 19 ≤ 900) ∧ ((oCm T (fun j => E j 0) c (fun j => V j 0) d m p).1 ≠ 0 → ERR (oCm T (fun j => E j 0) c (fun j => V j 0) d m p).1 (oCm T (fun j => E j 0) c (fun j => V j 0) d m p).2 (rN M')) := by
  intro m
  induction m with
  | zero =>
    intro p i M hi h h25 hT hL
    obtain ⟨v, S, L, M1, z, e, hv, hT1, hw⟩ := vrun (Ev := Ev) (k := k) (D := 2) (by omega) wlR hT (v_nextR (D := 0) h.tx h.at_ h.le)
    have hv := hv rfl
    subst hv
    have h1 := rs_ws (rs_rkv h) hw
    have x25 : rN M1 452 25 = i := (hw 452 (by decide) 25).trans ((rkv_o (Or.inr ⟨by decide, by decide, by decide⟩)).trans h25)
    have hTp := h.tx.2.2.2.1 (tS T p)
    have hx9 : T (tS T p) < 4294967296 := by
      rcases hTp with w | w
      · exact Nat.lt_trans w (by decide)
      · rw [w]; decide
    have hn9 := h.tx.1
    have hZ9 := tZ_le h.tx.2.2.2.2 h.le
    have z18 : rN M1 452 18 ≤ 900 := by
      rw [hw 452 (by decide) 18, rkv_18]
      omega
    have z19 : rN M1 452 19 ≤ 900 := by
      rw [hw 452 (by decide) 19, rkv_19]
      omega
    by_cases k0 : tK T p = 0
    · have hN : T (tS T p) = 4294967295 := (tK_0 hTp).mp k0
      rw [oCm_0 k0]
      rw [hN] at e
      refine ⟨2, M1, by omega, fun f => (go_12 hm hT h.er.1 (f + 1)).trans (go_24 hm hT e f), hT1, fun _ => ⟨_, i, h1, by omega, x25, fun j hj => ?_, ⟨fun a b q1 q2 q3 => (hw a q1 b).trans (rkv_o (Or.inl q2)), fun b w => (hw 452 (by decide) b).trans (rkv_o (Or.inr ⟨by omega, by omega, by omega⟩))⟩, z18, z19⟩, fun w => absurd rfl w⟩
      have hh : ∀ b, rN M1 463 b = rN M 463 b := fun b => (hw 463 (by decide) b).trans (rkv_o (Or.inl (by decide)))
      obtain ⟨v, v1, v2, v3⟩ := hL j hj
      exact ⟨v, v1, (hh _).trans v2, by rw [hh, hh]; exact v3⟩
    · have hN : T (tS T p) ≠ 4294967295 := fun w => k0 ((tK_0 hTp).mpr w)
      have es := tS_i h.tx.1 h.tx.2.2.2.2 h.le
      obtain ⟨a1, a2, -⟩ := r_reads (D := 0) h1 x25 (by omega)
      rw [oVb_i es] at a1 a2
      by_cases kv : oVb T p 7 20 = 4294967295
      · obtain ⟨g, e5, hg⟩ := a1 kv
        obtain ⟨v5, S5, L5, M5, z5, r5, -, hT5, hw5⟩ := vrun (Ev := Ev) (k := k) (D := 6) (by omega) wlR hT1 e5
        rw [oCm_1 k0 kv]
        rw [es] at hg
        have h5 := err_ws hg hw5
        refine ⟨4, M5, by omega, fun f => (go_12 hm hT h.er.1 (f + 3)).trans ((go_23 hm hT e hx9 hN (f + 2)).trans ((go_31 hm hT1 r5 (f + 1)).trans (go_14 hm hT5 (by rw [h5.1]; exact h5.2.2.1) (by rw [h5.1]; exact h5.2.2.2) f))), hT5, fun w => absurd w n01, fun _ => h5⟩
      · obtain ⟨g, e5, hg⟩ := a2 kv (by omega)
        obtain ⟨v5, S5, L5, M5, z5, r5, -, hT5, hw5⟩ := vrun (Ev := Ev) (k := k) (D := 6) (by omega) wlR hT1 e5
        rw [oCm_4 k0 kv]
        rw [es] at hg
        have h5 := err_ws hg hw5
        refine ⟨4, M5, by omega, fun f => (go_12 hm hT h.er.1 (f + 3)).trans ((go_23 hm hT e hx9 hN (f + 2)).trans ((go_31 hm hT1 r5 (f + 1)).trans (go_14 hm hT5 (by rw [h5.1]; exact h5.2.2.1) (by rw [h5.1]; exact h5.2.2.2) f))), hT5, fun w => absurd w n41, fun _ => h5⟩
  | succ m ih =>
    intro p i M hi h h25 hT hL
    obtain ⟨v, S, L, M1, z, e, hv, hT1, hw⟩ := vrun (Ev := Ev) (k := k) (D := 2) (by omega) wlR hT (v_nextR (D := 0) h.tx h.at_ h.le)
    have hv := hv rfl
    subst hv
    have h1 := rs_ws (rs_rkv h) hw
    have x25 : rN M1 452 25 = i := (hw 452 (by decide) 25).trans ((rkv_o (Or.inr ⟨by decide, by decide, by decide⟩)).trans h25)
    have hTp := h.tx.2.2.2.1 (tS T p)
    have hx9 : T (tS T p) < 4294967296 := by
      rcases hTp with w | w
      · exact Nat.lt_trans w (by decide)
      · rw [w]; decide
    have hn9 := h.tx.1
    have hZ9 := tZ_le h.tx.2.2.2.2 h.le
    have z18 : rN M1 452 18 ≤ 900 := by
      rw [hw 452 (by decide) 18, rkv_18]
      omega
    have z19 : rN M1 452 19 ≤ 900 := by
      rw [hw 452 (by decide) 19, rkv_19]
      omega
    have hh : ∀ b, rN M1 463 b = rN M 463 b := fun b => (hw 463 (by decide) b).trans (rkv_o (Or.inl (by decide)))
    have f1 : FrX (rN M) (rN M1) := ⟨fun a b q1 q2 q3 => (hw a q1 b).trans (rkv_o (Or.inl q2)), fun b w => (hw 452 (by decide) b).trans (rkv_o (Or.inr ⟨by omega, by omega, by omega⟩))⟩
    by_cases k0 : tK T p = 0
    · have hN : T (tS T p) = 4294967295 := (tK_0 hTp).mp k0
      rw [oCm_0 k0]
      rw [hN] at e
      refine ⟨2, M1, by omega, fun f => (go_12 hm hT h.er.1 (f + 1)).trans (go_24 hm hT e f), hT1, fun _ => ⟨_, i, h1, by omega, x25, fun j hj => ?_, f1, z18, z19⟩, fun w => absurd rfl w⟩
      obtain ⟨v, v1, v2, v3⟩ := hL j hj
      exact ⟨v, v1, (hh _).trans v2, by rw [hh, hh]; exact v3⟩
    have hN : T (tS T p) ≠ 4294967295 := fun w => k0 ((tK_0 hTp).mpr w)
    have es := tS_i h.tx.1 h.tx.2.2.2.2 h.le
    obtain ⟨a1, -, a3⟩ := r_reads (D := 0) h1 x25 (by omega)
    rw [oVb_i es] at a1 a3
    by_cases kv : oVb T p 7 20 = 4294967295
    · obtain ⟨g, e5, hg⟩ := a1 kv
      obtain ⟨v5, S5, L5, M5, z5, r5, -, hT5, hw5⟩ := vrun (Ev := Ev) (k := k) (D := 6) (by omega) wlR hT1 e5
      rw [oCm_1 k0 kv]
      rw [es] at hg
      have h5 := err_ws hg hw5
      exact ⟨4, M5, by omega, fun f => (go_12 hm hT h.er.1 (f + 3)).trans ((go_23 hm hT e hx9 hN (f + 2)).trans ((go_31 hm hT1 r5 (f + 1)).trans (go_14 hm hT5 (by rw [h5.1]; exact h5.2.2.1) (by rw [h5.1]; exact h5.2.2.2) f))), hT5, fun w => absurd w n01, fun _ => h5⟩
    obtain ⟨b1, b2⟩ := a3 kv (by omega)
    rw [tE_i es] at b1 b2
    by_cases k1 : (oOne T (fun j => E j 0) c (fun j => V j 0) d (oVb T p 7 20) (tE T p)).1 = 0
    · obtain ⟨g, e5, hg, g25, ⟨v9, w1, w2, w3⟩, t2, t3, t4⟩ := b1 k1
      obtain ⟨v5, S5, L5, M5, z5, r5, -, hT5, hw5⟩ := vrun (Ev := Ev) (k := k) (D := 6) (by omega) wlR hT1 e5
      rw [oCm_s k0 kv k1]
      have ws : ∀ b, rN M5 463 b = g 463 b := fun b => hw5 463 (by decide) b
      have hL5 : TLD c d (i + 1) (rN M5) := fun j hj => by
        by_cases q : j = i
        · subst q
          exact ⟨v9, w1, (ws _).trans w2, by rw [ws, ws]; exact w3⟩
        · obtain ⟨v, v1, v2, v3⟩ := hL j (by omega)
          have hs : ∀ b, b < 3 * i → rN M5 463 b = rN M 463 b := fun b hb => (ws b).trans ((t2 b (Or.inl hb)).trans (hh b))
          exact ⟨v, v1, (hs _ (by omega)).trans v2, by rw [hs _ (by omega), hs _ (by omega)]; exact v3⟩
      have f5 : FrX (rN M1) (rN M5) := ⟨fun a b q1 q2 q3 => (hw5 a q1 b).trans (t3 a b q2 q3), fun b w => (hw5 452 (by decide) b).trans (t4 b w)⟩
      obtain ⟨F, M', hF, hrun, hT', c1, c2⟩ := ih _ (i + 1) M5 (by omega) (rs_ws hg hw5) ((hw5 452 (by decide) 25).trans g25) hT5 hL5
      refine ⟨F + 3, M', by omega, fun f => ?_, hT', fun w => ?_, c2⟩
      · exact (go_12 hm hT h.er.1 (f + F + 2)).trans ((go_23 hm hT e hx9 hN (f + F + 1)).trans ((go_31 hm hT1 r5 (f + F)).trans (hrun f)))
      · obtain ⟨q, i', u1, u2, u3, u4, u5, u6⟩ := c1 w
        exact ⟨q, i', u1, u2, u3, u4, frX_tr f1 (frX_tr f5 u5), u6⟩
    · obtain ⟨g, e5, hg⟩ := b2 k1
      obtain ⟨v5, S5, L5, M5, z5, r5, -, hT5, hw5⟩ := vrun (Ev := Ev) (k := k) (D := 6) (by omega) wlR hT1 e5
      rw [oCm_e k0 kv k1]
      have h5 := err_ws hg hw5
      exact ⟨4, M5, by omega, fun f => (go_12 hm hT h.er.1 (f + 3)).trans ((go_23 hm hT e hx9 hN (f + 2)).trans ((go_31 hm hT1 r5 (f + 1)).trans (go_14 hm hT5 (by rw [h5.1]; exact h5.2.2.1) (by rw [h5.1]; exact h5.2.2.2) f))), hT5, fun w => absurd w k1, fun _ => h5⟩
end XR2
