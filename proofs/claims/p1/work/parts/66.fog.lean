/-! the remainder of a day that isn't known -/
section FOG
variable {call : Call} {E : Env9} {n z : Nat}
theorem irem3_n (x : Nat) (K : KK) (L S : List AV) (M : Mem) : op_irem call K E n z L (vI 3 :: vI x :: S) M = K E n z L (vI (toN (nI x - nI x / nI 3 * nI 3)) :: S) M := by
  have e : op_irem call K E n z L (vI 3 :: vI x :: S) M = gd (isI (vI x)) (gd (Nat.ble 1 (3 % 4294967296)) (fN (toN (nI x - nI x / nI 3 * nI 3)) fun r => K E n z L (vI r :: S) M)) := rfl
  rw [e, gd_t (show isI (vI x) = true from rfl), gd_t (show Nat.ble 1 (3 % 4294967296) = true from rfl), fN_eq]
theorem st_n (f : AV → Bool) (i : Nat) (v : AV) (K : KK) (L S : List AV) (M : Mem) : op_st f i call K E n z L (v :: S) M = gd (f v) (gd (lk2 L i) (K E n z (nst L i v) S M)) := rfl
theorem bin_n (g : Nat → Nat → Nat) (x y : Nat) (K : KK) (L S : List AV) (M : Mem) : op_bin g call K E n z L (vI y :: vI x :: S) M = K E n z L (vI (g x y) :: S) M := by
  have e : op_bin g call K E n z L (vI y :: vI x :: S) M = gd (isI (vI x)) (gd (isI (vI y)) (fN (g x y) fun r => K E n z L (vI r :: S) M)) := rfl
  rw [e, gd_t (show isI (vI x) = true from rfl), gd_t (show isI (vI y) = true from rfl), fN_eq]
theorem if_n (tl te tg x : Nat) (J : Jmp) (L S : List AV) (M : Mem) : tm_if tl te tg call J E n z L (vI x :: S) M = cmp3 (vI x) (vI 0) E (fun E => J tl E n z L S M) (fun E => J te E n z L S M) (fun E => J tg E n z L S M) := rfl
theorem ret_n (x : Nat) (J : Jmp) (L : List AV) (M : Mem) : tm_ret isI 0 call J E n 0 L [vI x] M = some [((0, 0), E, vI x, [], [], M, n, 0)] := rfl
theorem fm_0 (f x : Nat) (M : Mem) : gd (Nat.ble (flatL [vI x, vI 3]).length 3) (runF call 3 ct_J9_floorMod_7cf53 (f + 1) 0 E n 0 (iniL 3 [vI x, vI 3]) [] M) = runF call 3 ct_J9_floorMod_7cf53 (f + 1) 0 E n 0 [vI x, vI 3, vW 3] [] M := rfl
theorem fm_3 (f x R : Nat) (M : Mem) : runF call 3 ct_J9_floorMod_7cf53 (f + 1) 3 E n 0 [vI x, vI 3, vI R] [] M = some [((0, 0), E, vI R, [], [], M, n, 0)] := by
  rw [rF_1 f (show tget 3 ct_J9_floorMod_7cf53 3 = ([op_ld isI 2], tm_ret isI 0) from rfl), rB_c, rB_n, ol_n]
  have h : nth [vI x, vI 3, vI R] 2 = vI R := rfl
  rw [h, gd_t (show isI (vI R) = true from rfl), ret_n]
theorem fm_1 (f x : Nat) (M : Mem) (hx : bi 0 ≤ bi (g_ixor x 3)) : runF call 3 ct_J9_floorMod_7cf53 (f + 1 + 1) 0 E n 0 [vI x, vI 3, vW 3] [] M = some [((0, 0), E, vI (toN (nI x - nI x / nI 3 * nI 3)), [], [], M, n, 0)] := by
  rw [rF_1 (f + 1) (show tget 3 ct_J9_floorMod_7cf53 0 = ([op_ld isI 0, op_ld isI 1, op_irem, op_st isI 2, op_ld isI 0, op_ld isI 1, op_bin g_ixor], tm_if 1 3 3) from rfl), rB_c, rB_c, rB_c, rB_c, rB_c, rB_c, rB_c, rB_n, ol_n]
  have h0 : nth [vI x, vI 3, vW 3] 0 = vI x := rfl
  have h1 : nth [vI x, vI 3, vW 3] 1 = vI 3 := rfl
  rw [h0, gd_t (show isI (vI x) = true from rfl), ol_n, h1, gd_t (show isI (vI 3) = true from rfl), irem3_n, st_n, gd_t (show isI (vI (toN (nI x - nI x / nI 3 * nI 3))) = true from rfl), gd_t (show lk2 [vI x, vI 3, vW 3] 2 = true from rfl)]
  have h2 : nst [vI x, vI 3, vW 3] 2 (vI (toN (nI x - nI x / nI 3 * nI 3))) = [vI x, vI 3, vI (toN (nI x - nI x / nI 3 * nI 3))] := rfl
  rw [h2, ol_n]
  have h3 : ∀ R, nth [vI x, vI 3, vI R] 0 = vI x := fun _ => rfl
  have h4 : ∀ R, nth [vI x, vI 3, vI R] 1 = vI 3 := fun _ => rfl
  rw [h3, gd_t (show isI (vI x) = true from rfl), ol_n, h4, gd_t (show isI (vI 3) = true from rfl), bin_n, if_n, cm_n, c3_eq, if_neg (by omega)]
  by_cases q : bi (g_ixor x 3) = bi 0
  · rw [if_pos q]; exact fm_3 f x _ M
  · rw [if_neg q]; exact fm_3 f x _ M
theorem fm_run (x : Nat) (M : Mem) (hx : bi 0 ≤ bi (g_ixor x 3)) : bo_J9_floorMod_7cf53 call E n [vI x, vI 3] M = some [((0, 0), E, vI (toN (nI x - nI x / nI 3 * nI 3)), [], [], M, n, 0)] := ((fm_0 99999 x M).trans (fm_1 99998 x M hx))
end FOG
noncomputable def fogB (E : Env9) (n : Nat) (as : List AV) (M : Mem) : OR := gd (eL as [vX (some (1, 0)), vI 3]) (gd (Nat.beq (nthE E 6).1 (nthE E 6).2) (gd (Nat.ble 2147483648 (nthE E 1).1) (some [((0, 0), E, vI (bi (nthE E 6).1), [], [], M, n, 0)])))
noncomputable def fogS : Sm := fun y E n as M => Bool.rec none (fogB E n as M) (Nat.beq y 335)
theorem fogS_ok {l : Launch} {D : va_G} {G : Gam} {A : Nat → Prop} (hst : l.stackTraces = false) : SmOK l D G A fogS := by
  intro y E n as M rs h
  unfold fogS at h
  cases hy : Nat.beq y 335 with
  | false => rw [hy] at h; cases h
  | true =>
    rw [hy] at h
    have h : fogB E n as M = some rs := h
    unfold fogB at h
    obtain ⟨k1, h⟩ := gd_some h
    obtain ⟨k2, h⟩ := gd_some h
    obtain ⟨k3, h⟩ := gd_some h
    obtain rfl := (Option.some.inj h).symm
    rw [Nat.eq_of_beq_eq_true hy, eL_eq _ _ k1]
    have l1 := Nat.le_of_ble_eq_true k3
    -- the claim holds wherever the environment does; the number's own value then
    intro ρ vals hE hv
    have hb : 2147483648 ≤ bi (toN (G.1 1)) := Nat.le_trans l1 (hE.1 1).1
    have hlt : toN (G.1 1) < 2147483648 := by
      have h9 : toN (G.1 1) < 4294967296 := by unfold toN; exact (G.1 1).toUInt32.toNat_lt
      unfold bi at hb
      omega
    have hx : bi 0 ≤ bi (g_ixor (toN (G.1 1)) 3) := by
      have h3 : g_ixor (toN (G.1 1)) 3 = toN (G.1 1) ^^^ 3 := by
        unfold g_ixor toN nI
        simp
        rfl
      rw [h3]
      have h4 : toN (G.1 1) ^^^ 3 < 2 ^ 31 := Nat.xor_lt_two_pow (by omega) (by omega)
      unfold bi
      omega
    have hm := bq_J9_floorMod_7cf53 (l := l) (D := D) (G := G) (A := A) hst (runM_ok hst 0) E n [vI (toN (G.1 1)), vI 3] M _ (fm_run _ M hx)
    refine mok_imp hm (fun h => h) (fun ρ vals _ hv => ?_) (fun _ _ _ _ h => h) (fun r hr hE1 hE2 => ?_) ρ vals hE hv
    · obtain ⟨v1, w1, rfl, g1, g2⟩ := czs_cons hv
      refine ⟨?_, g2⟩
      have g1' : v1 = .int (G.1 1 + nI 0) := g1
      show v1 = .int (nI (toN (G.1 1)))
      rw [g1', nI_toN]
      show Value.int (_ + 0) = _
      simp
    · rw [List.mem_singleton.mp hr]
      refine ⟨_, List.mem_singleton.mpr rfl, rfl, hE1, fun ρ v hv => ?_, fun _ _ _ h => h⟩
      have e6 : toN (nI (toN (G.1 1)) - nI (toN (G.1 1)) / nI 3 * nI 3) = toN (G.1 6) := by
        rw [hE.2, nI_toN]
        rfl
      have e7 : nI (bi (nthE E 6).1) = nI (toN (nI (toN (G.1 1)) - nI (toN (G.1 1)) / nI 3 * nI 3)) := by
        rw [← envR_pt hE k2, e6, nI_toN]
      rcases hv with ⟨q1, x, q2, q3⟩ | ⟨q1, q2⟩
      · refine Or.inl ⟨rfl, x, q2, ?_⟩
        have q4 : x = .int (nI (toN (nI (toN (G.1 1)) - nI (toN (G.1 1)) / nI 3 * nI 3))) := q3
        show x = .int (nI (bi (nthE E 6).1))
        rw [q4, e7]
      · exact absurd q1 (show ¬ (0 : Nat) = 1 from by decide)
noncomputable def cF9 : Call := layN (orS (cpS 178) fogS) 20
theorem cF9_ok {l : Launch} {D : va_G} {G : Gam} {A : Nat → Prop} (hst : l.stackTraces = false) : CallOK l D G A infT cF9 := layN_ok hst (orS_ok (cpS_ok hst) (fogS_ok hst)) 20
def ivD : List (Nat × Nat) := [(0, 2147483647), (2147483648, 2147483648), (2147493647, 2147493647), (2147493648, 4294967295)]
noncomputable def cG (call : Call) (i : Nat) : Bool := allI (fun r => ru call i (mkE (2147483649, 2147493646) fu9 r fu9)) [(2147483648, 2147483648), (2147483649, 2147483649), (2147483650, 2147483650)]
theorem eachG {l : Launch} {D : va_G} {G : Gam} {A : Nat → Prop} {call : Call} (hc : CallOK l D G A infT call) (h6 : G.1 6 = G.1 1 - G.1 1 / 3 * 3) {i : Nat} (h : ca2 call i ivD iv0 = true) (hF : cG call i = true) : Each l D G A i := by
  have hb := bi_le (toN (G.1 1))
  by_cases k3 : 2147483649 ≤ bi (toN (G.1 1)) ∧ bi (toN (G.1 1)) ≤ 2147493646
  · obtain ⟨r, hr, e⟩ := rem_in (G.1 1) (by omega) (by omega)
    rw [← h6] at e
    refine ⟨G.1, call, mkE (2147483649, 2147493646) fu9 (2147483648 + r, 2147483648 + r) fu9, fun _ _ => rfl, hc, mkE_R h6 k3 (fu9_in _) ⟨Nat.le_of_eq e.symm, Nat.le_of_eq e⟩ (fu9_in _), ?_⟩
    refine allI_mem hF (2147483648 + r, 2147483648 + r) ?_
    have : r = 0 ∨ r = 1 ∨ r = 2 := by omega
    rcases this with rfl | rfl | rfl
    · exact List.mem_cons_self
    · exact List.mem_cons_of_mem _ List.mem_cons_self
    · exact List.mem_cons_of_mem _ (List.mem_cons_of_mem _ List.mem_cons_self)
  · have k4 : (bi (toN (G.1 1)) ≤ 2147483647 ∨ 2147493648 ≤ bi (toN (G.1 1))) ∨ bi (toN (G.1 1)) = 2147483648 ∨ bi (toN (G.1 1)) = 2147493647 := by omega
    rcases k4 with (k | k) | k | k
    · exact each1 hc h6 (a := (0, 2147483647)) (b := (0, 4294967295)) List.mem_cons_self List.mem_cons_self ⟨Nat.zero_le _, k⟩ (fu9_in _) h
    · exact each1 hc h6 (a := (2147493648, 4294967295)) (b := (0, 4294967295)) (List.mem_cons_of_mem _ (List.mem_cons_of_mem _ (List.mem_cons_of_mem _ List.mem_cons_self))) List.mem_cons_self ⟨k, hb⟩ (fu9_in _) h
    · exact each1 hc h6 (a := (2147483648, 2147483648)) (b := (0, 4294967295)) (List.mem_cons_of_mem _ List.mem_cons_self) List.mem_cons_self ⟨Nat.le_of_eq k.symm, Nat.le_of_eq k⟩ (fu9_in _) h
    · exact each1 hc h6 (a := (2147493647, 2147493647)) (b := (0, 4294967295)) (List.mem_cons_of_mem _ (List.mem_cons_of_mem _ List.mem_cons_self)) List.mem_cons_self ⟨Nat.le_of_eq k.symm, Nat.le_of_eq k⟩ (fu9_in _) h
theorem cb_10a : ca2 cF9 10 ivD iv0 = true := by decide +kernel
theorem cb_10 : cG cF9 10 = true := by decide +kernel
