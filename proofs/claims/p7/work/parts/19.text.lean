/-! the texts -/
section TEXTS
variable {p : Program} {l : Launch} {e : Env} {R : Room} {s : State} {m : MethodId} {args : Array Value} {below : List Frame} {meth : Method} {c : Code} {Q : State → Prop} {D : va_G} {G : Gam} {A : Nat → Prop} {ρ0 : List Nat} {nL : Nat} {Pe : Res → Prop} {cc : ByteArray} {own : String} {Ts : List Cond} {pc : Nat} {K : KK} {call : Call} {RS : List Res}

theorem tx_all : ∀ i, i < nTx → lenTx.getD i 0 = (nthL natTx i).length ∧ (nthL natTx i).length ≤ 100000 ∧ ∀ j, j < (nthL natTx i).length → (bytTx.getD i []).getD j 0 = nI (nthN (nthL natTx i) 0 j) := by decide +kernel
theorem tx_of {ρ : List Nat} {w : Nat} {v : Value} (h : cz G ρ (vW w) v) (h1 : 4 ≤ w) (h2 : w < 5000) : v = .ref (G.2.1 (w - 4)) := by
  rcases h with ⟨q, -⟩ | ⟨q, -⟩ | ⟨q, -⟩ | ⟨-, -, q⟩ | ⟨q, -⟩
  · omega
  · omega
  · omega
  · exact q
  · omega
theorem ok_tval (C : Cx cc own Ts p l s m args meth c D G A nL) (hF : Fx G A s s.heap) {index : Nat} (hlink : Cond.fieldLink own index "java/lang/String" "value" "[B" ∈ Ts) (hdg : decode cc pc = .ok (.getfield index, 3)) (hK : KOK p l e R s m args below meth c Q D G A ρ0 nL Pe (pc + 3) K) : KOK p l e R s m args below meth c Q D G A ρ0 nL Pe pc (op_tval call K) := by
  intro E n z L S M rs h he ρ H locs ls st h0 hE hM hS hL hs
  unfold op_tval at h
  split at h
  · rename_i w S'
    obtain ⟨u, st, rfl, hu, hs'⟩ := czs_cons hs
    obtain ⟨h1, h⟩ := gd_some h
    obtain ⟨h2, h⟩ := gd_some h
    have h1 := Nat.le_of_ble_eq_true h1
    have h2 := Nat.le_of_ble_eq_true h2
    rw [tx_of hu h1 (by omega)]
    have hi : w - 4 < nTx := by show w - 4 < 27; omega
    refine vk_getf C.1 C.2.1 (hF.1.1 (w - 4) hi).2.2.1 hS C.2.2.2.1 (C.2.2.2.2.1 _ hlink) (fun _ h => h) hdg (hK E n z L _ M rs h he ρ H locs ls _ h0 hE hM hS hL ⟨Or.inr (Or.inr (Or.inr (Or.inl ⟨by omega, by omega, ?_⟩))), hs'⟩)
    show Value.ref (G.2.1 (1000 + (w - 4))) = .ref (G.2.1 (w + 1000 - 4))
    rw [show 1000 + (w - 4) = w + 1000 - 4 by omega]
  · cases h
theorem ok_tcod (C : Cx cc own Ts p l s m args meth c D G A nL) (hF : Fx G A s s.heap) {index : Nat} (hlink : Cond.fieldLink own index "java/lang/String" "coder" "B" ∈ Ts) (hdg : decode cc pc = .ok (.getfield index, 3)) (hK : KOK p l e R s m args below meth c Q D G A ρ0 nL Pe (pc + 3) K) : KOK p l e R s m args below meth c Q D G A ρ0 nL Pe pc (op_tcod call K) := by
  intro E n z L S M rs h he ρ H locs ls st h0 hE hM hS hL hs
  unfold op_tcod at h
  split at h
  · rename_i w S'
    obtain ⟨u, st, rfl, hu, hs'⟩ := czs_cons hs
    obtain ⟨h1, h⟩ := gd_some h
    obtain ⟨h2, h⟩ := gd_some h
    have h1 := Nat.le_of_ble_eq_true h1
    have h2 := Nat.le_of_ble_eq_true h2
    rw [tx_of hu h1 (by omega)]
    have hi : w - 4 < nTx := by show w - 4 < 27; omega
    exact vk_getf C.1 C.2.1 (hF.1.1 (w - 4) hi).2.1 hS C.2.2.2.1 (C.2.2.2.2.1 _ hlink) (fun _ h => h) hdg (hK E n z L _ M rs h he ρ H locs ls _ h0 hE hM hS hL ⟨rfl, hs'⟩)
  · cases h
theorem ok_tlen (C : Cx cc own Ts p l s m args meth c D G A nL) (hF : Fx G A s s.heap) (hdg : decode cc pc = .ok (.arraylength, 1)) (hK : KOK p l e R s m args below meth c Q D G A ρ0 nL Pe (pc + 1) K) : KOK p l e R s m args below meth c Q D G A ρ0 nL Pe pc (op_tlen natTx call K) := by
  intro E n z L S M rs h he ρ H locs ls st h0 hE hM hS hL hs
  unfold op_tlen at h
  split at h
  · rename_i w S'
    obtain ⟨u, st, rfl, hu, hs'⟩ := czs_cons hs
    obtain ⟨h1, h⟩ := gd_some h
    obtain ⟨h2, h⟩ := gd_some h
    rw [fN_eq] at h
    have h1 := Nat.le_of_ble_eq_true h1
    have h2 := Nat.le_of_ble_eq_true h2
    rw [tx_of hu (by omega) (by omega)]
    have hi : w - 1004 < nTx := by show w - 1004 < 27; omega
    obtain ⟨t1, t2, t3⟩ := tx_all (w - 1004) hi
    have hT := (hF.1.1 (w - 1004) hi).2.2.2
    rw [show w - 4 = 1000 + (w - 1004) by omega]
    exact va_tlen C.1 C.2.1 hT hS (v := nI (nthL natTx (w - 1004)).length) (by rw [t1]; rfl) hdg (hK E n z L _ M rs h he ρ H locs ls _ h0 hE hM hS hL ⟨rfl, hs'⟩)
  · cases h
theorem ok_tbal (C : Cx cc own Ts p l s m args meth c D G A nL) (hF : Fx G A s s.heap) (hdg : decode cc pc = .ok (.baload, 1)) (hK : KOK p l e R s m args below meth c Q D G A ρ0 nL Pe (pc + 1) K) : KOK p l e R s m args below meth c Q D G A ρ0 nL Pe pc (op_tbal natTx call K) := by
  intro E n z L S M rs h he ρ H locs ls st h0 hE hM hS hL hs
  unfold op_tbal at h
  split at h
  · rename_i j w S'
    obtain ⟨v, st1, rfl, hv, hs1⟩ := czs_cons hs
    obtain ⟨u, st, rfl, hu, hs'⟩ := czs_cons hs1
    obtain ⟨h1, h⟩ := gd_some h
    obtain ⟨h2, h⟩ := gd_some h
    obtain ⟨h3, h⟩ := gd_some h
    rw [fN_eq] at h
    have h1 := Nat.le_of_ble_eq_true h1
    have h2 := Nat.le_of_ble_eq_true h2
    have h3 : j < _ := Nat.le_of_ble_eq_true h3
    rw [tx_of hu (by omega) (by omega)]
    have hv' : v = .int (nI j) := hv
    subst hv'
    have hi : w - 1004 < nTx := by show w - 1004 < 27; omega
    obtain ⟨t1, t2, t3⟩ := tx_all (w - 1004) hi
    have hT := (hF.1.1 (w - 1004) hi).2.2.2
    rw [show w - 4 = 1000 + (w - 1004) by omega]
    refine va_tb C.1 C.2.1 hT hS (by rw [t1]; exact vp_in_nI h3 (by omega)) (v := .int (nI (nthN (nthL natTx (w - 1004)) 0 j))) ?_ hdg (hK E n z L _ M rs h he ρ H locs ls _ h0 hE hM hS hL ⟨rfl, hs'⟩)
    rw [clamp_nI h3 t2, t3 j h3]
  · cases h
theorem ok_gs1 (C : Cx cc own Ts p l s m args meth c D G A nL) (hF : Fx G A s s.heap) {index : Nat} (hlink : Cond.fieldLink own index "java/lang/String" "COMPACT_STRINGS" "Z" ∈ Ts) (hdg : decode cc pc = .ok (.getstatic index, 3)) (hK : KOK p l e R s m args below meth c Q D G A ρ0 nL Pe (pc + 3) K) : KOK p l e R s m args below meth c Q D G A ρ0 nL Pe pc (op_push (vI 1) call K) := by
  intro E n z L S M rs h he ρ H locs ls st h0 hE hM hS hL hs
  exact va_gets C.1 C.2.1 hF.2.2.2.2.1 hS C.2.2.2.1 (C.2.2.2.2.1 _ hlink) (fun _ h => h) hdg (hK E n z L _ M rs h he ρ H locs ls _ h0 hE hM hS hL ⟨rfl, hs⟩)
theorem ok_gsq (C : Cx cc own Ts p l s m args meth c D G A nL) (hF : Fx G A s s.heap) {index : Nat} (hlink : Cond.fieldLink own index "jdk/internal/util/Preconditions" "SIOOBE_FORMATTER" "Ljava/util/function/BiFunction;" ∈ Ts) (hdg : decode cc pc = .ok (.getstatic index, 3)) (hK : KOK p l e R s m args below meth c Q D G A ρ0 nL Pe (pc + 3) K) : KOK p l e R s m args below meth c Q D G A ρ0 nL Pe pc (op_push (vW 5000) call K) := by
  intro E n z L S M rs h he ρ H locs ls st h0 hE hM hS hL hs
  rcases hF.2.2.2.2.2.1 with hZ | ⟨t, hZ⟩
  · exact va_gets C.1 C.2.1 hZ hS C.2.2.2.1 (C.2.2.2.2.1 _ hlink) (fun _ h => h) hdg (hK E n z L _ M rs h he ρ H locs ls _ h0 hE hM hS hL ⟨Or.inr (Or.inr (Or.inr (Or.inr ⟨Nat.le_refl _, Or.inl rfl⟩))), hs⟩)
  · exact va_gets C.1 C.2.1 hZ hS C.2.2.2.1 (C.2.2.2.2.1 _ hlink) (fun _ h => h) hdg (hK E n z L _ M rs h he ρ H locs ls _ h0 hE hM hS hL ⟨Or.inr (Or.inr (Or.inr (Or.inr ⟨Nat.le_refl _, Or.inr ⟨t, rfl⟩⟩))), hs⟩)
theorem ri_B {ty : FieldType} (ht : ty = .byte) {ρ : List Nat} {a : AV} {v : Value} (hv : cz G ρ a v) (h : isZ a = true) : ∃ x, v = .int x ∧ narrow ty (.int x) = .int x := by
  obtain ⟨k, hk, -, rfl⟩ := cz_isZ hv h
  subst ht
  refine ⟨_, rfl, ?_⟩
  rcases (show k = 0 ∨ k = 1 by omega) with rfl | rfl <;> decide +kernel
theorem nar_ch : ∀ n, n < 128 → narrow .char (.int (nI n)) = .int (nI n) := by decide +kernel
theorem ri_C {ty : FieldType} (ht : ty = .char) {ρ : List Nat} {a : AV} {v : Value} (hv : cz G ρ a v) (h : isCh a = true) : ∃ x, v = .int x ∧ narrow ty (.int x) = .int x := by
  rcases a with n | k | n | o | i | w | n | n
  · subst ht
    exact ⟨_, hv, nar_ch n (by have := Nat.le_of_ble_eq_true h; omega)⟩
  all_goals cases h
theorem run_T (C : Cx cc own Ts p l s m args meth c D G A nL) (hF : Fx G A s s.heap) {yn : MethodName} {ws : List Cond} {rm : Room} {bytes : ByteArray} {maxL index na bud B : Nat} {ret : Option FieldType} (cw : CallW R s args own "java/lang/String" index yn bytes maxL ret ws rm bud bud na) (hrm : rm.cells = bud ∧ rm.slots = bud) (hB : R.cells = B ∧ R.slots = B) (hdg : decode cc pc = .ok (.invokevirtual index, 3)) : RunOK p l e R s m args below meth c D G A nL yn ws rm gT (na + 1) bud B pc := by
  intro ρ n M as rs H locs z ls vals rest hl hv hg hM hS hcat hz hls hMet
  obtain ⟨v, As, rfl, hAs⟩ := cons_of hl
  have hx : ∃ w, 4 ≤ w ∧ w < 31 ∧ v = .ref (G.2.1 (w - 4)) := by
    cases as with
    | nil => exact hv.elim
    | cons a as =>
      rcases a with x | a | x | o | i | w | k | k
      · cases hg
      · cases hg
      · cases hg
      · cases hg
      · cases hg
      · have hg' : (Bool.rec false (Nat.ble (w + 1) 31) (Nat.ble 4 w) : Bool) = true := hg
        cases h4 : Nat.ble 4 w with
        | false => rw [h4] at hg'; cases hg'
        | true =>
          rw [h4] at hg'
          have q1 := Nat.le_of_ble_eq_true h4
          have q2 : w < 31 := Nat.le_of_ble_eq_true hg'
          exact ⟨w, q1, q2, tx_of hv.1 q1 (by omega)⟩
      · cases hg
      · cases hg
  obtain ⟨w, q1, q2, rfl⟩ := hx
  rw [hrm.1, hrm.2] at hMet
  have hi : w - 4 < nTx := by show w - 4 < 27; omega
  obtain ⟨cell, r1, r2, r3⟩ := vk_recv hF.1 hi hS
  exact va_runV ⟨C.1, C.2.1, C.2.2.1, C.2.2.2.1, C.2.2.2.2.1⟩ hMet cw ⟨Pc_blind, ⟨cell, r1, r2, r3⟩, pre_of C hF hM hS⟩ rfl hAs hls (by simp) (lv_room (m := m) (pc := pc) (ls := ls) (rest := rest) hcat) hdg ⟨by omega, by omega⟩
end TEXTS
