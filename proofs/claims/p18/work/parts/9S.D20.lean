/-! the reference's parser goes forward -/
def InvA (a : Int) (M : Mem) : Prop := Inv0 M ∧ a ≤ rdI M 452 17
noncomputable def PRA (κ : Nat) (v : Int) : Bool := Bool.rec (PR0 κ v) (Bool.rec (PR0 κ v) true (ieq v 17)) (Nat.beq κ 13)
theorem prA {κ : Nat} {v : Int} (h : PR0 κ v = true) : PRA κ v = true := by
  unfold PRA
  cases Nat.beq κ 13 with
  | false => exact h
  | true =>
    cases hv : ieq v 17 with
    | false => exact h
    | true => rfl
theorem prA17 : PRA (kd0 452) ((17 : Nat) : Int) = true := by decide +kernel
theorem hang_A {a : Int} : Hang kd0 PRA (InvA a) := fun M M' h hf => ⟨hang_0 M M' h.1 (fun k hk i hi => hf k hk i (prA hi)), by rw [hf 452 (by omega) 17 prA17]; exact h.2⟩
theorem hang_0T : Hang kd0 PR0 Inv0 := hang_0
noncomputable def sBA (lo hi : Int) : Sct := ((.inl 452, (0, 0, 18)), (.inl 452, (0, 0, 17)), -1, lo, hi)
noncomputable def sBW : Sct := ((.inl 452, (0, 0, 18)), (.inl 452, (0, 0, 19)), 1, 0, 900)
/-- next: what it says, and that begin is at -/
noncomputable def pNx : List Pst := [((0, 0), (0, 0, 255), [fM 17 0 899, fM 18 0 899, fM 19 0 900], [sBW, sBA 0 0]), ((0, 0), (0, -1, -1), [fM 17 0 900, fM 18 0 900, fM 19 0 900], [sBW, sBA 0 0])]
noncomputable def ctNx : Ctr := ([(1, 452, 0)], [fM 17 0 900], [], [(13, 17, 19)], pNx)
noncomputable def mdNx : MDT := (1, nb_X11_next, [(3, ([], [(((.inl 452, (0, 0, 19)) : RK × Aff), 0, 900)], [(13, 19, 19)], [(((.inl 452, (0, 0, 18)) : RK × Aff), ((.inl 452, (0, 0, 19)) : RK × Aff), 1, 0, 900)], true, true, []))])
noncomputable def stNx : SPt := ([some (1, 452, 0)], [fM 17 0 900], [])
noncomputable def rNx : List Rl9 := [((452, 17), (452, 17), 1)]
noncomputable def r17 : List Rl9 := [((452, 17), (452, 17), 0)]
theorem chNxa : xsegR kd0 sh0 rt0 bd0 un0 (inW [(13, 17, 17)]) PR0 MT0 CT9 4 mdNx [(0, [(stNx, rNx)]), (2, [(stNx, r17)])] [] 1000000 0 stNx = true := by decide +kernel
theorem chNxb : xseg kd0 sh0 rt0 bd0 un0 (inW [(13, 18, 19)]) PRA MT0 CT9 4 mdNx [] pNx 1000000 2 stNx = true := by decide +kernel
theorem nxA {a x y : Int} (h : a ≤ x) (e : y = x + 1) : a ≤ y := by omega
theorem nxB {n : Nat} {x y : Int} (h : 901 - x ≤ ((n + 1 : Nat) : Int)) (e : y = x + 1) : 901 - y ≤ (n : Int) := by omega
theorem nxC {a x y : Int} (h : a ≤ x) (e : y = x + 0) : a ≤ y := by omega
theorem next_A {Ev : Env9} {a : Int} : ∀ k, 8 ≤ k → CtrOK kd0 sh0 rt0 bd0 (InvA a) Ev (runM k) 229 ctNx := by
  intro k hk
  obtain ⟨k', rfl⟩ : ∃ k', k = k' + 1 := ⟨k - 1, by omega⟩
  refine ctr_st hR9 (md := mdNx) (show MDOK bo9 229 mdNx from mo_X11_next rfl _) (Nat.le_of_ble_eq_true rfl) (fun d ct hmC M0 hI0 _ f hf L M hQ hM => ?_)
  have hk4 : 4 ≤ k' := by omega
  have w1 : ∀ κ v, inW [(13, 17, 17)] κ v = true → inW [(13, 17, 19)] κ v = true := ywsub_ok (Wp := inW [(13, 17, 19)]) (by decide +kernel)
  have w2 : ∀ κ v, inW [(13, 18, 19)] κ v = true → inW [(13, 17, 19)] κ v = true := ywsub_ok (Wp := inW [(13, 17, 19)]) (by decide +kernel)
  have from2 : ∀ f, 1000000 ≤ f → ∀ (L : List AV) (M : Mem), SpOK kd0 stNx L M → TI kd0 sh0 rt0 bd0 M → InvA a M → Fr kd0 (inW [(13, 17, 19)]) M0 M → OKo (runF (runM k') d ct f 2 Ev 466 0 L [] M) (EnP kd0 sh0 rt0 bd0 (InvA a) Ev ctNx M0) := by
    intro f hf L M hQ hT hI hFr
    exact seg1 (C := 1000000) (F := 0) hu0 hang_A (cs9 hang_A hR9 hMT9 hk4) hmC chNxb hf hQ hT hI (fun q q1 => by cases q1) (fun r r1 r2 r3 q => ⟨r1, r2, r3.1, r3.2.1, fr_tr hFr r3.2.2 w2, q⟩)
  have key : ∀ (n : Nat) f, fu 1000000 2000000 n ≤ f → ∀ (L : List AV) (M : Mem), SpOK kd0 stNx L M → TI kd0 sh0 rt0 bd0 M → InvA a M → Fr kd0 (inW [(13, 17, 19)]) M0 M → 901 - rdI M 452 17 ≤ (n : Int) → OKo (runF (runM k') d ct f 0 Ev 466 0 L [] M) (EnP kd0 sh0 rt0 bd0 (InvA a) Ev ctNx M0) := by
    intro n
    induction n with
    | zero =>
      intro f hf L M hQ hT hI hFr hn
      have := fact_at hQ.2.1 (c := 452) (i := 17) (lo := 0) (hi := 900) List.mem_cons_self
      omega
    | succ n ih =>
      intro f hf L M hQ hT hI hFr hn
      rw [fu_s] at hf
      have hZ := fu_b 1000000 2000000 n
      generalize fu 1000000 2000000 n = Z at ih hf hZ
      refine segR (posts := []) (C := 1000000) (F := Z) hu0 hang_0 (cs9 hang_0 hR9 hMT9 hk4) hmC chNxa (fue4 hf (nle rfl)) hQ hT hI.1 (fun q q1 p' q2 f' q3 L' M' q4 qr q5 => ?_) (fun r _ _ _ q => by obtain ⟨p, hp, _⟩ := q; cases hp)
      rcases List.mem_cons.mp q1 with z | z
      · subst z
        obtain rfl := List.mem_singleton.mp q2
        have hr : rdI M' 452 17 = rdI M 452 17 + 1 := qr _ (List.mem_singleton.mpr rfl)
        exact ih f' q3 L' M' q4 q5.1 ⟨q5.2.1, nxA hI.2 hr⟩ (fr_tr hFr q5.2.2 w1) (nxB hn hr)
      · obtain rfl := List.mem_singleton.mp z
        obtain rfl := List.mem_singleton.mp q2
        have hr : rdI M' 452 17 = rdI M 452 17 + 0 := qr _ (List.mem_singleton.mpr rfl)
        exact from2 f' (Nat.le_trans (Nat.le_trans (nle rfl) hZ) q3) L' M' q4 q5.1 ⟨q5.2.1, nxC hI.2 hr⟩ (fr_tr hFr q5.2.2 w1)
  have hb := fact_at hQ.2.1 (c := 452) (i := 17) (lo := 0) (hi := 900) List.mem_cons_self
  have hfu : fu 1000000 2000000 901 ≤ 1000000000000 := Nat.le_of_ble_eq_true (by decide +kernel)
  exact key 901 f (Nat.le_trans hfu hf) L M ⟨hQ.1, hQ.2.1, hQ.2.2⟩ hM.1 hM.2.1 hM.2.2 (by have := hb.1; omega)
