/-! floorMod: its contract -/
theorem fm_sum {t y : Nat} (h1 : -12 < sg t) (h2 : sg t < 0) (h3 : 1 ≤ sg y) (h4 : sg y ≤ 12) : sg ((t + y) % 4294967296) = sg t + sg y := by
  rw [sg_add]
  generalize sg t = a at h1 h2
  generalize sg y = b at h3 h4
  exact w32_id (by omega) (by omega)
theorem fm_pos {a b : Int} (h1 : 1 ≤ b) (h2 : ¬ a < 0) : 0 ≤ a.tmod b ∧ a.tmod b < b := by
  have h3 := Int.tmod_nonneg b (show 0 ≤ a by omega)
  have h4 := Int.tmod_lt_of_pos a (show 0 < b by omega)
  exact ⟨h3, h4⟩
theorem fm_neg {a b : Int} (h1 : 1 ≤ b) (h2 : a < 0) : a.tmod b ≤ 0 ∧ -b < a.tmod b := by
  obtain ⟨h3, h4⟩ := fm_pos (a := -a) h1 (by omega)
  rw [Int.neg_tmod] at h3 h4
  exact ⟨by omega, by omega⟩
theorem c3_lt {x : Nat} {a b c : OR} (h : sg x < 0) : c3 (bi x) (bi 0) a b c = a := by
  rw [c3_eq, if_pos (bi_lt_iff.mpr (by rw [sgZ0]; exact h))]
theorem c3_z {x : Nat} {a b c : OR} (h : sg x = 0) : c3 (bi x) (bi 0) a b c = b := by
  rw [c3_eq, if_neg (fun q => by have := bi_lt_iff.mp q; rw [sgZ0, h] at this; exact absurd this (by decide)), if_pos (bi_eq_iff.mpr (by rw [sgZ0]; exact h))]
theorem c3_ge {x : Nat} {a b : OR} (h : ¬ sg x < 0) : c3 (bi x) (bi 0) a b b = b := by
  rw [c3_eq, if_neg (fun q => h (by have := bi_lt_iff.mp q; rw [sgZ0] at this; exact this))]
  split <;> rfl
theorem fm_val (k x y : Nat) (Ev : Env9) (M : Mem) (hy : 1 ≤ y % 4294967296) (h1 : 1 ≤ sg y) (h2 : sg y ≤ 12) : ∃ t, t < 4294967296 ∧ 0 ≤ sg t ∧ sg t ≤ 11 ∧ runM (k + 1) 335 Ev 466 [vI x, vI y] M = some [((0, 0), Ev, vI t, [], [], M, 466, 0)] := by
  have ht := sg_rem x y
  have hlt := toN_lt (nI x - nI x / nI y * nI y)
  have hxn := xor_neg x y
  have hr := fm_run k x y Ev M hy
  revert ht hlt hxn hr
  generalize toN (nI x - nI x / nI y * nI y) = t
  generalize g_ixor x y = u
  intro ht hlt hxn hr
  have hy0 : decide (sg y < 0) = false := decide_eq_false (fun q => absurd (Int.lt_of_lt_of_le q (Int.le_trans (by decide) h1)) (Int.lt_irrefl _))
  by_cases hx : sg x < 0
  · have hu : sg u < 0 := hxn.mpr (by rw [decide_eq_true hx, hy0]; rfl)
    obtain ⟨b2, b3⟩ := fm_neg h1 hx
    rw [← ht] at b2 b3
    rw [c3_lt hu] at hr
    by_cases q1 : sg t = 0
    · rw [c3_z q1] at hr
      exact ⟨t, hlt, by rw [q1]; decide, by rw [q1]; decide, hr⟩
    · have q2 : sg t < 0 := by
        generalize sg t = a at b2 q1
        omega
      rw [c3_lt q2] at hr
      have hs := fm_sum (t := t) (y := y) (by generalize sg t = a at b3; generalize sg y = b at b3 h2; omega) q2 h1 h2
      refine ⟨_, Nat.mod_lt _ (by decide), ?_, ?_, hr⟩
      · rw [hs]; generalize sg t = a at b3; generalize sg y = b at b3; omega
      · rw [hs]; generalize sg t = a at q2; generalize sg y = b at h2; omega
  · have hu : ¬ sg u < 0 := fun q => by
      have := hxn.mp q
      rw [decide_eq_false hx, hy0] at this
      cases this
    obtain ⟨b2, b3⟩ := fm_pos h1 hx
    rw [← ht] at b2 b3
    rw [c3_ge hu] at hr
    exact ⟨t, hlt, b2, by generalize sg t = a at b3; generalize sg y = b at b3 h2; omega, hr⟩
theorem ctr_fm {Ev : Env9} {Inv : Mem → Prop} : ∀ k, 1 ≤ k → CtrOK kd0 sh0 rt0 bd0 Inv Ev (runM k) 335 ([(0, (-2147483648), 2147483647), (0, 1, 12)], [], [], [], [((0, 0), (0, 0, 11), [], [])]) := by
  intro k hk vs M h1 _ _ hT hI
  obtain ⟨k', rfl⟩ : ∃ k', k = k' + 1 := ⟨k - 1, by omega⟩
  cases vs with
  | nil => exact h1.elim
  | cons v vs =>
    cases vs with
    | nil => exact h1.2.elim
    | cons u vs =>
      cases vs with
      | cons _ _ => exact h1.2.2.elim
      | nil =>
        obtain ⟨x, e1, x1, x2, x3⟩ := h1.1
        subst e1
        obtain ⟨y, e2, y1, y2, y3⟩ := h1.2.1
        subst e2
        have y2 : (1 : Int) ≤ sg y := y2
        have y3 : sg y ≤ 12 := y3
        have hy : y ≤ 2147483647 := by unfold sg bi at y2 y3; omega
        have hyy := sg_eq hy
        obtain ⟨t, t1, t2, t3, t4⟩ := fm_val k' x y Ev M (by omega) y2 y3
        exact ⟨_, t4, rfl, rfl, hT, hI, fun _ _ _ _ => rfl, _, List.mem_singleton.mpr rfl, rfl, fun _ => ⟨t, rfl, t1, t2, t3⟩, (fun q hq => by cases hq), (fun q hq => by cases hq)⟩
