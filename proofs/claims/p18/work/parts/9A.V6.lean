/-! the program's tokens on views -/
theorem vc3_1 {u w : Nat} {a b c : Option VR} (h : u < w) : vc3 u w a b c = a := by
  rw [vc3_is]
  rw [Nat.ble_eq_true_of_le (show u + 1 ≤ w from h)]
theorem vc3_2 {u w : Nat} {a b c : Option VR} (h : u = w) : vc3 u w a b c = b := by
  subst h
  rw [vc3_is]
  rw [Nat.beq_refl]
  cases h1 : Nat.ble (u + 1) u with
  | false => rfl
  | true => have := Nat.le_of_ble_eq_true h1; omega
theorem vc3_3 {u w : Nat} {a b c : Option VR} (h : w < u) : vc3 u w a b c = c := by
  rw [vc3_is]
  cases h1 : Nat.ble (u + 1) w with
  | true => have := Nat.le_of_ble_eq_true h1; omega
  | false =>
    cases h2 : Nat.beq u w with
    | false => rfl
    | true => have := Nat.eq_of_beq_eq_true h2; omega
theorem bS {x : Nat} (h : x < 2147483648) : bv x = x + 2147483648 := by rw [bv_is]; unfold bi; omega
theorem bN {x : Nat} (h1 : 2147483648 ≤ x) (h2 : x < 4294967296) : bv x = x - 2147483648 := by rw [bv_is]; unfold bi; omega
theorem vlt {x y : Nat} {a b c : Option VR} (hy : y < 2147483648) (h : x < y) : vc3 (bv x) (bv y) a b c = a := vc3_1 (by rw [bS hy, bS (show x < 2147483648 by omega)]; omega)
theorem veq {x y : Nat} {a b c : Option VR} (h : x = y) : vc3 (bv x) (bv y) a b c = b := vc3_2 (by rw [h])
theorem vgt {x y : Nat} {a b c : Option VR} (hx : x < 2147483648) (h : y < x) : vc3 (bv x) (bv y) a b c = c := vc3_3 (by rw [bS hx, bS (show y < 2147483648 by omega)]; omega)
theorem vle2 {x y : Nat} {a c : Option VR} (hy : y < 2147483648) (h : x ≤ y) : vc3 (bv x) (bv y) a a c = a := by
  rcases Nat.lt_or_ge x y with q | q
  · (first | (exact vlt hy q) | (refine (vF_g rfl rfl).trans ?_; refine (vF_g rfl rfl).trans ?_; exact vlt hy q) | (refine (vF_g rfl rfl).trans ?_; exact vlt hy q))
  · (first | (exact veq (by omega)) | (refine (vF_g rfl rfl).trans ?_; refine (vF_g rfl rfl).trans ?_; exact veq (by omega)) | (refine (vF_g rfl rfl).trans ?_; exact veq (by omega)))
theorem vge2 {x y : Nat} {a b : Option VR} (hx : x < 2147483648) (h : y ≤ x) : vc3 (bv x) (bv y) a b b = b := by
  rcases Nat.lt_or_ge y x with q | q
  · (first | (exact vgt hx q) | (refine (vF_g rfl rfl).trans ?_; refine (vF_g rfl rfl).trans ?_; exact vgt hx q) | (refine (vF_g rfl rfl).trans ?_; exact vgt hx q))
  · (first | (exact veq (by omega)) | (refine (vF_g rfl rfl).trans ?_; refine (vF_g rfl rfl).trans ?_; exact veq (by omega)) | (refine (vF_g rfl rfl).trans ?_; exact veq (by omega)))
theorem vne {x y : Nat} {a b : Option VR} (hx : x < 4294967296) (hy : y < 4294967296) (h : x ≠ y) : vc3 (bv x) (bv y) a b a = a := by
  have e : bv x ≠ bv y := by rw [bv_is, bv_is]; unfold bi; omega
  rcases Nat.lt_or_ge (bv x) (bv y) with q | q
  · exact vc3_1 q
  · exact vc3_3 (by omega)
theorem vmin {x y : Nat} {a b c : Option VR} (h1 : 2147483648 ≤ x) (h2 : x < 4294967296) (hy : y < 2147483648) : vc3 (bv x) (bv y) a b c = a := vc3_1 (by rw [bS hy, bN h1 h2]; omega)
theorem gB_0 : gB9 0 = g_sub := rfl
theorem gB_1 : gB9 1 = g_imul := rfl
theorem gB_2 : gB9 2 = g_iand := rfl
theorem gB_6 : gB9 6 = g_ishr := rfl
theorem gU_1 : gU9 1 = g_i2b := rfl
theorem gS_0 : gS9 0 = g_lshl := rfl
/-- a block of a method -/
theorem vF_s {vc : VC} {code : List DB} {n b z : Nat} {L S : List AV} {f : Vw} {q : DB} (h : yat code b = some q) : vFn vc code (n + 1) b z L S f = vB vc (vFn vc code n) q.2 q.1 z L S f := by
  rw [vFn_is]
  show (match yat code b with | some q => vB vc (vFn0 vc code n) q.2 q.1 | none => fun _ _ _ _ => none : VK) z L S f = _
  rw [h, ← vFn_is]
theorem vF_g {vc : VC} {code : List DB} {n b z : Nat} {L S : List AV} {f : Vw} {q : DB} {X : Option VR} (h1 : X = vFn vc code (n + 1) b z L S f) (h : yat code b = some q) : X = vB vc (vFn vc code n) q.2 q.1 z L S f := h1.trans (vF_s h)
/-- a method's run, from its first block on -/
theorem vM_go {D y : Nat} {as : List AV} {f : Vw} {r : Option VR} {nl : Nat} {code : List DB} {ts : List (Nat × An)} (h1 : Nat.beq y 338 = false) (h2 : Nat.beq y 339 = false) (h3 : MT0 y = some (nl, code, ts)) (h4 : Nat.ble (flatL as).length nl = true) (h : ∀ F, 999940 ≤ F → vFn (vM MT0 D) code (F + 60) 0 0 (iniL nl as) [] f = r) : vM MT0 (D + 1) y as f = r := by
  have e : vM MT0 (D + 1) y as f = (Bool.rec (Bool.rec (match MT0 y with | some md => gd (Nat.ble (flatL as).length md.1) (vFn (vM MT0 D) md.2.1 fuM 0 0 (iniL md.1 as) [] f) | none => none) (vChr as f) (Nat.beq y 339)) (vLen as f) (Nat.beq y 338) : Option VR) := rfl
  rw [e, h1, h2, h3]
  show gd (Nat.ble (flatL as).length nl) (vFn (vM MT0 D) code fuM 0 0 (iniL nl as) [] f) = r
  rw [h4, fuM_is]
  exact h 999940 (Nat.le_refl _)
theorem vM_at {D y : Nat} {as : List AV} {f : Vw} {nl : Nat} {code : List DB} {ts : List (Nat × An)} (h1 : Nat.beq y 338 = false) (h2 : Nat.beq y 339 = false) (h3 : MT0 y = some (nl, code, ts)) (h4 : Nat.ble (flatL as).length nl = true) : ∃ F, 999940 ≤ F ∧ ∀ r, vFn (vM MT0 D) code (F + 60) 0 0 (iniL nl as) [] f = r → vM MT0 (D + 1) y as f = r := by
  refine ⟨999940, Nat.le_refl _, fun r h => ?_⟩
  have e : vM MT0 (D + 1) y as f = (Bool.rec (Bool.rec (match MT0 y with | some md => gd (Nat.ble (flatL as).length md.1) (vFn (vM MT0 D) md.2.1 fuM 0 0 (iniL md.1 as) [] f) | none => none) (vChr as f) (Nat.beq y 339)) (vLen as f) (Nat.beq y 338) : Option VR) := rfl
  rw [e, h1, h2, h3]
  show gd (Nat.ble (flatL as).length nl) (vFn (vM MT0 D) code fuM 0 0 (iniL nl as) [] f) = r
  rw [h4, fuM_is]
  exact h
/-- the text's byte, or none -/
noncomputable def bt (f : Vw) (i : Nat) : Nat := if i < f 1 1 then g_iand (f 2 i) 255 else 4294967295
theorem v_byteAt {D i : Nat} {f : Vw} (hi : i < 2147483648) (hn : f 1 1 ≤ 900) : vM MT0 (D + 1) 4 [vR 1, vI i] f = some ((0, 0), vI (bt f i), f) := by
  unfold bt
  show vFn (vM MT0 D) nb_X0_byteAt fuM 0 0 [vR 1, vI i] [] f = _
  obtain ⟨F, hF⟩ := fu9
  rw [hF]
  by_cases h : i < f 1 1
  · rw [if_pos h]
    (first | (refine (vge2 hi (Nat.zero_le i)).trans ?_) | (refine (vF_g rfl rfl).trans ?_; refine (vF_g rfl rfl).trans ?_; refine (vge2 hi (Nat.zero_le i)).trans ?_) | (refine (vF_g rfl rfl).trans ?_; refine (vge2 hi (Nat.zero_le i)).trans ?_))
    (first | (refine (vlt (by omega) h).trans ?_) | (refine (vF_g rfl rfl).trans ?_; refine (vF_g rfl rfl).trans ?_; refine (vlt (by omega) h).trans ?_) | (refine (vF_g rfl rfl).trans ?_; refine (vlt (by omega) h).trans ?_))
    (first | (refine Eq.trans (b := gd (Nat.ble (i + 1) 900) (some (((0, 0), vI (g_iand (f 2 i) 255), f) : VR))) rfl ?_) | (refine (vF_g rfl rfl).trans ?_; refine (vF_g rfl rfl).trans ?_; refine Eq.trans (b := gd (Nat.ble (i + 1) 900) (some (((0, 0), vI (g_iand (f 2 i) 255), f) : VR))) rfl ?_) | (refine (vF_g rfl rfl).trans ?_; refine Eq.trans (b := gd (Nat.ble (i + 1) 900) (some (((0, 0), vI (g_iand (f 2 i) 255), f) : VR))) rfl ?_))
    rw [Nat.ble_eq_true_of_le (show i + 1 ≤ 900 by omega)]
    (first | (exact rfl) | (refine (vF_g rfl rfl).trans ?_; refine (vF_g rfl rfl).trans ?_; exact rfl) | (refine (vF_g rfl rfl).trans ?_; refine (vF_g rfl rfl).trans ?_; refine (vF_g rfl rfl).trans ?_; exact rfl) | (refine (vF_g rfl rfl).trans ?_; exact rfl))
  · rw [if_neg h]
    (first | (refine (vge2 hi (Nat.zero_le i)).trans ?_) | (refine (vF_g rfl rfl).trans ?_; refine (vF_g rfl rfl).trans ?_; refine (vge2 hi (Nat.zero_le i)).trans ?_) | (refine (vF_g rfl rfl).trans ?_; refine (vge2 hi (Nat.zero_le i)).trans ?_))
    (first | (refine (vge2 hi (by omega)).trans ?_) | (refine (vF_g rfl rfl).trans ?_; refine (vF_g rfl rfl).trans ?_; refine (vge2 hi (by omega)).trans ?_) | (refine (vF_g rfl rfl).trans ?_; refine (vge2 hi (by omega)).trans ?_))
    (first | (exact rfl) | (refine (vF_g rfl rfl).trans ?_; refine (vF_g rfl rfl).trans ?_; exact rfl) | (refine (vF_g rfl rfl).trans ?_; refine (vF_g rfl rfl).trans ?_; refine (vF_g rfl rfl).trans ?_; exact rfl) | (refine (vF_g rfl rfl).trans ?_; exact rfl))
/-- what kind of token a sign begins -/
def kd9 (x : Nat) : Nat := if 97 ≤ x ∧ x ≤ 122 then 1 else if 48 ≤ x ∧ x ≤ 57 then 2 else if x = 59 then 3 else if x = 32 then 4 else if x = 4294967295 then 0 else 5
theorem v_kindOf {D x : Nat} {f : Vw} (hx : x < 256 ∨ x = 4294967295) : vM MT0 (D + 1) 47 [vI x] f = some ((0, 0), vI (kd9 x), f) := by
  show vFn (vM MT0 D) nb_X7_kindOf fuM 0 0 [vI x] [] f = _
  obtain ⟨F, hF⟩ := fu9
  rw [hF]
  rcases hx with hx | hx
  · have hs : x < 2147483648 := by omega
    by_cases h1 : 97 ≤ x ∧ x ≤ 122
    · rw [show kd9 x = 1 from if_pos h1]
      (first | (refine (vge2 hs h1.1).trans ?_) | (refine (vF_g rfl rfl).trans ?_; refine (vF_g rfl rfl).trans ?_; refine (vge2 hs h1.1).trans ?_) | (refine (vF_g rfl rfl).trans ?_; refine (vge2 hs h1.1).trans ?_))
      (first | (refine (vle2 (by omega) h1.2).trans ?_) | (refine (vF_g rfl rfl).trans ?_; refine (vF_g rfl rfl).trans ?_; refine (vle2 (by omega) h1.2).trans ?_) | (refine (vF_g rfl rfl).trans ?_; refine (vle2 (by omega) h1.2).trans ?_))
      (first | (exact rfl) | (refine (vF_g rfl rfl).trans ?_; refine (vF_g rfl rfl).trans ?_; exact rfl) | (refine (vF_g rfl rfl).trans ?_; refine (vF_g rfl rfl).trans ?_; refine (vF_g rfl rfl).trans ?_; exact rfl) | (refine (vF_g rfl rfl).trans ?_; exact rfl))
    · have e3 : vFn (vM MT0 D) nb_X7_kindOf (F + 60) 0 0 [vI x] [] f = vFn (vM MT0 D) nb_X7_kindOf (F + 58) 3 0 [vI x] [] f ∨ vFn (vM MT0 D) nb_X7_kindOf (F + 60) 0 0 [vI x] [] f = vFn (vM MT0 D) nb_X7_kindOf (F + 59) 3 0 [vI x] [] f := by
        by_cases q : 97 ≤ x
        · exact Or.inl ((by (first | (refine (vge2 hs q).trans ?_) | (refine (vF_g rfl rfl).trans ?_; refine (vF_g rfl rfl).trans ?_; refine (vge2 hs q).trans ?_) | (refine (vF_g rfl rfl).trans ?_; refine (vge2 hs q).trans ?_)); (first | (exact (vgt hs (by omega))) | (refine (vF_g rfl rfl).trans ?_; refine (vF_g rfl rfl).trans ?_; exact (vgt hs (by omega))) | (refine (vF_g rfl rfl).trans ?_; exact (vgt hs (by omega))))))
        · refine Or.inr ?_
          (first | (exact vlt (x := x) (y := 97) (by omega) (by omega)) | (refine (vF_g rfl rfl).trans ?_; refine (vF_g rfl rfl).trans ?_; exact vlt (x := x) (y := 97) (by omega) (by omega)) | (refine (vF_g rfl rfl).trans ?_; exact vlt (x := x) (y := 97) (by omega) (by omega)))
      have key : ∀ n, vFn (vM MT0 D) nb_X7_kindOf (n + 9) 3 0 [vI x] [] f = some ((0, 0), vI (kd9 x), f) := by
        intro n
        unfold kd9
        rw [if_neg h1]
        by_cases h2 : 48 ≤ x ∧ x ≤ 57
        · rw [if_pos h2]
          (first | (refine (vge2 hs h2.1).trans ?_) | (refine (vF_g rfl rfl).trans ?_; refine (vF_g rfl rfl).trans ?_; refine (vge2 hs h2.1).trans ?_) | (refine (vF_g rfl rfl).trans ?_; refine (vge2 hs h2.1).trans ?_))
          (first | (refine (vle2 (by omega) h2.2).trans ?_) | (refine (vF_g rfl rfl).trans ?_; refine (vF_g rfl rfl).trans ?_; refine (vle2 (by omega) h2.2).trans ?_) | (refine (vF_g rfl rfl).trans ?_; refine (vle2 (by omega) h2.2).trans ?_))
          (first | (exact rfl) | (refine (vF_g rfl rfl).trans ?_; refine (vF_g rfl rfl).trans ?_; exact rfl) | (refine (vF_g rfl rfl).trans ?_; refine (vF_g rfl rfl).trans ?_; refine (vF_g rfl rfl).trans ?_; exact rfl) | (refine (vF_g rfl rfl).trans ?_; exact rfl))
        · rw [if_neg h2]
          have key2 : ∀ n, vFn (vM MT0 D) nb_X7_kindOf (n + 6) 6 0 [vI x] [] f = some ((0, 0), vI (if x = 59 then 3 else if x = 32 then 4 else if x = 4294967295 then 0 else 5), f) := by
            intro n
            by_cases h3 : x = 59
            · rw [if_pos h3]
              (first | (refine (veq h3).trans ?_) | (refine (vF_g rfl rfl).trans ?_; refine (vF_g rfl rfl).trans ?_; refine (veq h3).trans ?_) | (refine (vF_g rfl rfl).trans ?_; refine (veq h3).trans ?_))
              (first | (exact rfl) | (refine (vF_g rfl rfl).trans ?_; refine (vF_g rfl rfl).trans ?_; exact rfl) | (refine (vF_g rfl rfl).trans ?_; refine (vF_g rfl rfl).trans ?_; refine (vF_g rfl rfl).trans ?_; exact rfl) | (refine (vF_g rfl rfl).trans ?_; exact rfl))
            · rw [if_neg h3]
              by_cases h4 : x = 32
              · rw [if_pos h4]
                (first | (refine (vne (by omega) (by omega) h3).trans ?_) | (refine (vF_g rfl rfl).trans ?_; refine (vF_g rfl rfl).trans ?_; refine (vne (by omega) (by omega) h3).trans ?_) | (refine (vF_g rfl rfl).trans ?_; refine (vne (by omega) (by omega) h3).trans ?_))
                (first | (refine (veq h4).trans ?_) | (refine (vF_g rfl rfl).trans ?_; refine (vF_g rfl rfl).trans ?_; refine (veq h4).trans ?_) | (refine (vF_g rfl rfl).trans ?_; refine (veq h4).trans ?_))
                (first | (exact rfl) | (refine (vF_g rfl rfl).trans ?_; refine (vF_g rfl rfl).trans ?_; exact rfl) | (refine (vF_g rfl rfl).trans ?_; refine (vF_g rfl rfl).trans ?_; refine (vF_g rfl rfl).trans ?_; exact rfl) | (refine (vF_g rfl rfl).trans ?_; exact rfl))
              · rw [if_neg h4, if_neg (show x ≠ 4294967295 by omega)]
                (first | (refine (vne (by omega) (by omega) h3).trans ?_) | (refine (vF_g rfl rfl).trans ?_; refine (vF_g rfl rfl).trans ?_; refine (vne (by omega) (by omega) h3).trans ?_) | (refine (vF_g rfl rfl).trans ?_; refine (vne (by omega) (by omega) h3).trans ?_))
                (first | (refine (vne (by omega) (by omega) h4).trans ?_) | (refine (vF_g rfl rfl).trans ?_; refine (vF_g rfl rfl).trans ?_; refine (vne (by omega) (by omega) h4).trans ?_) | (refine (vF_g rfl rfl).trans ?_; refine (vne (by omega) (by omega) h4).trans ?_))
                (first | (refine (vne (by omega) (by omega) (show x ≠ 4294967295 by omega)).trans ?_) | (refine (vF_g rfl rfl).trans ?_; refine (vF_g rfl rfl).trans ?_; refine (vne (by omega) (by omega) (show x ≠ 4294967295 by omega)).trans ?_) | (refine (vF_g rfl rfl).trans ?_; refine (vne (by omega) (by omega) (show x ≠ 4294967295 by omega)).trans ?_))
                (first | (exact rfl) | (refine (vF_g rfl rfl).trans ?_; refine (vF_g rfl rfl).trans ?_; exact rfl) | (refine (vF_g rfl rfl).trans ?_; refine (vF_g rfl rfl).trans ?_; refine (vF_g rfl rfl).trans ?_; exact rfl) | (refine (vF_g rfl rfl).trans ?_; exact rfl))
          by_cases q : 48 ≤ x
          · (first | (refine (vge2 hs q).trans ?_) | (refine (vF_g rfl rfl).trans ?_; refine (vF_g rfl rfl).trans ?_; refine (vge2 hs q).trans ?_) | (refine (vF_g rfl rfl).trans ?_; refine (vge2 hs q).trans ?_))
            (first | (refine (vgt hs (by omega)).trans ?_) | (refine (vF_g rfl rfl).trans ?_; refine (vF_g rfl rfl).trans ?_; refine (vgt hs (by omega)).trans ?_) | (refine (vF_g rfl rfl).trans ?_; refine (vgt hs (by omega)).trans ?_))
            (first | (exact (key2 (n + 1))) | (refine (vF_g rfl rfl).trans ?_; refine (vF_g rfl rfl).trans ?_; exact (key2 (n + 1))) | (refine (vF_g rfl rfl).trans ?_; exact (key2 (n + 1))))
          · (first | (refine (vlt (by omega) (by omega)).trans ?_) | (refine (vF_g rfl rfl).trans ?_; refine (vF_g rfl rfl).trans ?_; refine (vlt (by omega) (by omega)).trans ?_) | (refine (vF_g rfl rfl).trans ?_; refine (vlt (by omega) (by omega)).trans ?_))
            (first | (exact (key2 (n + 2))) | (refine (vF_g rfl rfl).trans ?_; refine (vF_g rfl rfl).trans ?_; exact (key2 (n + 2))) | (refine (vF_g rfl rfl).trans ?_; exact (key2 (n + 2))))
      rcases e3 with e | e
      · rw [e]; exact key (F + 49)
      · rw [e]; exact key (F + 50)
  · subst hx
    (first | (refine (vmin (by omega) (by omega) (by omega)).trans ?_) | (refine (vF_g rfl rfl).trans ?_; refine (vF_g rfl rfl).trans ?_; refine (vmin (by omega) (by omega) (by omega)).trans ?_) | (refine (vF_g rfl rfl).trans ?_; refine (vmin (by omega) (by omega) (by omega)).trans ?_))
    (first | (refine (vmin (by omega) (by omega) (by omega)).trans ?_) | (refine (vF_g rfl rfl).trans ?_; refine (vF_g rfl rfl).trans ?_; refine (vmin (by omega) (by omega) (by omega)).trans ?_) | (refine (vF_g rfl rfl).trans ?_; refine (vmin (by omega) (by omega) (by omega)).trans ?_))
    (first | (refine (vmin (by omega) (by omega) (by omega)).trans ?_) | (refine (vF_g rfl rfl).trans ?_; refine (vF_g rfl rfl).trans ?_; refine (vmin (by omega) (by omega) (by omega)).trans ?_) | (refine (vF_g rfl rfl).trans ?_; refine (vmin (by omega) (by omega) (by omega)).trans ?_))
    (first | (refine (vmin (by omega) (by omega) (by omega)).trans ?_) | (refine (vF_g rfl rfl).trans ?_; refine (vF_g rfl rfl).trans ?_; refine (vmin (by omega) (by omega) (by omega)).trans ?_) | (refine (vF_g rfl rfl).trans ?_; refine (vmin (by omega) (by omega) (by omega)).trans ?_))
    (first | (refine (veq rfl).trans ?_) | (refine (vF_g rfl rfl).trans ?_; refine (vF_g rfl rfl).trans ?_; refine (veq rfl).trans ?_) | (refine (vF_g rfl rfl).trans ?_; refine (veq rfl).trans ?_))
    (first | (exact rfl) | (refine (vF_g rfl rfl).trans ?_; refine (vF_g rfl rfl).trans ?_; exact rfl) | (refine (vF_g rfl rfl).trans ?_; refine (vF_g rfl rfl).trans ?_; refine (vF_g rfl rfl).trans ?_; exact rfl) | (refine (vF_g rfl rfl).trans ?_; exact rfl))
theorem v_fail {D c : Nat} {f : Vw} : vM MT0 (D + 1) 46 [vR 446, vI c] f = some ((0, 0), vI 0, vup (vup f 446 6 c) 446 7 (vup f 446 6 c 446 3)) := by
  show vFn (vM MT0 D) nb_X7_fail fuM 0 0 [vR 446, vI c] [] f = _
  obtain ⟨F, hF⟩ := fu9
  rw [hF]
  exact (by (first | (exact rfl) | (refine (vF_g rfl rfl).trans ?_; refine (vF_g rfl rfl).trans ?_; exact rfl) | (refine (vF_g rfl rfl).trans ?_; refine (vF_g rfl rfl).trans ?_; refine (vF_g rfl rfl).trans ?_; exact rfl) | (refine (vF_g rfl rfl).trans ?_; exact rfl)))
