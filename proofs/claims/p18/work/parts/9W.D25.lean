/-! load: its row made empty -/
noncomputable def mdLd : MDT := (2, nb_X11_load, [])
theorem mdLd_ok : MDOK bo9 252 mdLd := mo_X11_load rfl _
theorem ld_f : isObjF 452 11 0 (31 + 2) = true := by decide +kernel
theorem ld_r : rt0 452 0 = 453 := Nat.eq_of_beq_eq_true (by decide +kernel)
theorem row_453 : isRow 453 627 = true := by decide +kernel
theorem bz_453 : allN 627 (fun j => Bool.rec false (ile (bd0 (kd0 453) ((j : Nat) : Int)).1 0) (ile 0 (bd0 (kd0 453) ((j : Nat) : Int)).2)) = true := by decide +kernel
def Zr (k : Nat) (M M1 : Mem) : Prop := (∀ j, j < k → rdI M1 453 j = 0) ∧ ∀ k', k' < 466 → ∀ i : Nat, k' ≠ 453 ∨ k ≤ i → rdI M1 k' i = rdI M k' i
theorem sg_00 : sg 0 = 0 := rfl
section LDH
variable {call : Call} {Ev : Env9} {d : Nat} {ct : TrT Blk d}
theorem ld_b1 (h : MdC mdLd d ct) : tget d ct 1 = ([op_ld isI 1, op_push (vI 627)], tm_icmp 2 3 3) := h 1 _ rfl
theorem ld_b2 (h : MdC mdLd d ct) : tget d ct 2 = ([op_ld isA 0, op_getf 11 0, op_ld isI 1, op_push (vI 0), op_iast, op_iinc 1 1], tm_goto 1) := h 2 _ rfl
theorem ld_s1 (h : MdC mdLd d ct) {f k : Nat} {M : Mem} (hk : k < 627) : runF call d ct (f + 1) 1 Ev 466 0 [vR 452, vI k] [] M = runF call d ct f 2 Ev 466 0 [vR 452, vI k] [] M := by
  have hl : sg k < sg 627 := by
    rw [sg_eq (show k ≤ 2147483647 by omega), sg_eq (show 627 ≤ 2147483647 by decide)]
    omega
  rw [rF9 f (ld_b1 h), rBc, rBc, rBn, ldn, show nth [vR 452, vI k] 1 = vI k from rfl, isIv, gdt, pun, icn, c3_eq, if_pos (bi_lt_iff.mpr hl)]
theorem ld_s2 (h : MdC mdLd d ct) {f k p : Nat} {fs : List AV} {M : Mem} (hO : tget 9 M 452 = cO 11 fs) (hl : 0 < fs.length) (hr : nth fs 0 = vR 453) (hA : tget 9 M 453 = cI 0 627 p []) (hk : k < 627) : runF call d ct (f + 1) 2 Ev 466 0 [vR 452, vI k] [] M = runF call d ct f 1 Ev 466 0 [vR 452, vI (k + 1)] [] (tset 9 M 453 (cI 0 627 (pset p k 0) [])) := by
  rw [rF9 f (ld_b2 h), rBc, rBc, rBc, rBc, rBc, rBc, rBn,
    ldn, show nth [vR 452, vI k] 0 = vR 452 from rfl, isAv, gdt, op_getf_n hO hl, hr, ldn, show nth [vR 452, vI k] 1 = vI k from rfl, isIv, gdt, pun, op_iast_n hA hk,
    incn 1 1 k 0 _ _ _ _ (show nth [vR 452, vI k] 1 = vI k from rfl) (show lk2 [vR 452, vI k] 1 = true from rfl), Nat.mod_eq_of_lt (show k + 1 < 4294967296 by omega), gotn]
  rfl
theorem ld_loop (h : MdC mdLd d ct) {F : Nat} {P : Res → Prop} {M : Mem} (hN : ∀ f, F ≤ f → ∀ M1, Zr 627 M M1 → TI kd0 sh0 rt0 bd0 M1 → OKo (runF call d ct f 1 Ev 466 0 [vR 452, vI 627] [] M1) P) : ∀ (m k f : Nat) (M1 : Mem), k + m = 627 → 2 * m + F ≤ f → Zr k M M1 → TI kd0 sh0 rt0 bd0 M1 → OKo (runF call d ct f 1 Ev 466 0 [vR 452, vI k] [] M1) P := by
  intro m
  induction m with
  | zero =>
    intro k f M1 hk hf g1 g2
    have e : k = 627 := by omega
    subst e
    exact hN f (by omega) M1 g1 g2
  | succ m ih =>
    intro k f M1 hk hf g1 g2
    obtain ⟨f', rfl⟩ : ∃ f', f = f' + 1 + 1 := ⟨f - 2, by omega⟩
    obtain ⟨p, u1, u2, u3⟩ := row_of g2 (by omega) row_453
    obtain ⟨fs, o1, o2, o3⟩ := ref_of g2 (by omega) ld_f
    rw [ld_r] at o3
    have hk7 : k < 627 := by omega
    rw [ld_s1 h hk7, ld_s2 h o1 o2 o3 u1 hk7]
    obtain ⟨y1, y2⟩ := band (a := ile 0 (bd0 (kd0 453) ((k : Nat) : Int)).2) (b := ile (bd0 (kd0 453) ((k : Nat) : Int)).1 0) (allN_ok bz_453 k hk7)
    have y1 := ile_iff.mp y1
    have y2 := ile_iff.mp y2
    have hT2 := row_set (j := k) (x := 0) g2 (by omega) row_453 u1 (by decide) ⟨by rw [sg_00]; exact y2, by rw [sg_00]; exact y1⟩
    have hr : ∀ i, rdI M1 453 i = sg (pget p i) := fun i => by unfold rdI; rw [u1]; rfl
    refine ih (k + 1) f' _ (by omega) (by omega) ⟨fun j hj => ?_, fun k' hk' i' hi' => ?_⟩ hT2
    · rw [rdI_self (by omega)]
      show sg (pget (pset p k 0) j) = 0
      rw [pget_pset]
      by_cases q : j = k
      · rw [if_pos (by omega)]; rfl
      · rw [if_neg (by omega), ← hr]
        exact g1.1 j (by omega)
    · by_cases q : k' = 453
      · rw [q, rdI_self (by omega)]
        show sg (pget (pset p k 0) i') = _
        rw [pget_pset, if_neg (by omega), ← hr]
        exact g1.2 453 (by omega) i' (Or.inr (by omega))
      · rw [rdI_other (by omega) hk' q]
        exact g1.2 k' hk' i' (Or.inl q)
end LDH
theorem inv_zr {M M1 : Mem} (h : Zr 627 M M1) (hI : Inv0 M) : Inv0 M1 := by
  have o : ∀ k, k < 466 → k ≠ 453 → ∀ i, rdI M1 k i = rdI M k i := fun k hk h9 i => h.2 k hk i (Or.inl h9)
  refine ⟨fun q hq => ?_, ⟨fun hs => ?_, XC_eq (fun k i hk _ => o k (by omega) (by omega) i) hI.2.1.2.1, XT_eq (fun k i hk _ => o k (by omega) (by omega) i) hI.2.1.2.2⟩, fun i hi h9 => ?_⟩
  · by_cases e : q.1 = 453
    · intro e9 he v hv h1
      have e2 : q.2 = 0 := (by decide : ∀ q ∈ rows9, q.1 = 453 → q.2 = 0) q hq e
      rw [e, e2, h.1 _ (by omega)] at h1
      omega
    · exact RowE_eq (fun j _ => o q.1 (rows9_lt q hq) e _) (hI.1 q hq)
  · rw [o 452 (by omega) (by omega)] at hs
    exact GoodR_eq (k := 454) (o := 0) (fun j _ => o 454 (by omega) (by omega) _) (hI.2.1.1 hs)
  · rw [o 452 (by omega) (by omega)] at h9
    exact GoodR_eq (k := 457) (o := 627 * i) (fun j _ => o 457 (by omega) (by omega) _) (hI.2.2 i hi h9)
/-- what keeps the held row -/
theorem kd_455 : kd0 455 = 33 := kd_n 455 33 (by decide +kernel)
theorem good_455 {w : Wrg} (hw : ∀ a ∈ w, a.1 ≠ 33) {M M' : Mem} (hF : Fr kd0 (inW w) M M') (hg : GoodR M 455 0) : GoodR M' 455 0 :=
  GoodR_eq (k := 455) (o := 0) (fun j _ => hF 455 (by omega) _ (by rw [kd_455]; exact inW_no (fun a ha e => absurd e (hw a ha)))) hg
