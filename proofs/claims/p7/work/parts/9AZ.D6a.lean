/-! a contract ends -/
theorem ty453 : allN 627 (fun i => ytyp kd0 sh0 453 ((i : Nat) : Int)) = true := by decide +kernel
theorem bd453 {M : Mem} (hT : TI kd0 sh0 rt0 bd0 M) {i : Nat} (hi : i < 627) : (bd0 31 ((i : Nat) : Int)).1 ≤ rdI M 453 i ∧ rdI M 453 i ≤ (bd0 31 ((i : Nat) : Int)).2 := by
  obtain ⟨_, j, h1, h2⟩ := ytyp_ok hT (allN_ok ty453 i hi)
  have e : j = i := by omega
  subst e
  rw [kd_453] at h2
  exact h2
noncomputable def bdIs (i : Nat) (lo hi : Int) : Bool := Bool.rec false (ieq (bd0 31 ((i : Nat) : Int)).2 hi) (ieq (bd0 31 ((i : Nat) : Int)).1 lo)
theorem bdIs_ok {i : Nat} {lo hi : Int} (h : bdIs i lo hi = true) {M : Mem} (hT : TI kd0 sh0 rt0 bd0 M) (hi9 : i < 627) : lo ≤ rdI M 453 i ∧ rdI M 453 i ≤ hi := by
  obtain ⟨h1, h2⟩ := band (show (Bool.rec false (ieq (bd0 31 ((i : Nat) : Int)).2 hi) (ieq (bd0 31 ((i : Nat) : Int)).1 lo) : Bool) = true from h)
  have := bd453 hT hi9
  have := ieq_iff.mp h1
  have := ieq_iff.mp h2
  omega
theorem bdSt : allN 8 (fun v => bdIs (216 + 17 * v) 0 3) = true := by decide +kernel
theorem bdMe : allN 8 (fun v => allN 3 (fun p => bdIs (217 + 17 * v + p) 0 11)) = true := by decide +kernel
theorem bdEm : allN 12 (fun e => bdIs (36 + 15 * e) 0 8) = true := by decide +kernel
section CE9
variable {bo : Bo9} {R : Nat → Call} {Ev : Env9}
noncomputable def wE8 : Wrg := Nat.rec [] (fun v ih => (31, ((216 + 17 * v : Nat) : Int), ((219 + 17 * v : Nat) : Int)) :: ih) 8
noncomputable def ctE (e : Nat) : Ctr := ([(1, 452, 0), (0, (e : Int), (e : Int))], [k31 (36 + 15 * e) 1 8], [], (31, ((35 + 15 * e : Nat) : Int), ((36 + 15 * e : Nat) : Int)) :: (31, 6, 6) :: wE8, [((1, 0), (1, 0, 0), [], [])])
noncomputable def mdE : MDT := (6, nb_X11_contractEnds, [])
noncomputable def meE (e v p : Nat) (b : Nat) (q : Nat) : Fct := Bool.rec (Bool.rec (k31 (217 + 17 * v + q) 0 11) (k31 (217 + 17 * v + q) e e) (Nat.beq q p)) (Bool.rec (k31 (217 + 17 * v + q) 0 ((e : Int) - 1)) (k31 (217 + 17 * v + q) ((e : Int) + 1) 11) (Nat.testBit b q)) (Nat.blt q p)
noncomputable def spE (e v st p b : Nat) : SPt := (spI 6 [(1, 452, 0), (0, (e : Int), (e : Int))], [k31 (36 + 15 * e) (v + 1) (v + 1), k31 (216 + 17 * v) st st, meE e v p b 0, meE e v p b 1, meE e v p b 2], [])
noncomputable def wE (e v st p : Nat) : Wrg := [(31, ((217 + 17 * v + p : Nat) : Int), ((215 + 17 * v + st : Nat) : Int)), (31, ((216 + 17 * v : Nat) : Int), ((216 + 17 * v : Nat) : Int)), (31, ((35 + 15 * e : Nat) : Int), ((36 + 15 * e : Nat) : Int)), (31, 6, 6)]
noncomputable def eqE (v st p : Nat) : List ((Nat × Nat) × (Nat × Nat)) := Nat.rec [] (fun k ih => Bool.rec ih (((453, 217 + 17 * v + k), (453, 217 + 17 * v + k + 1)) :: ih) (Nat.ble p k)) (st - 1)
theorem eqE_mem {v st p k : Nat} (h1 : p ≤ k) (h2 : k + 1 < st) : ((453, 217 + 17 * v + k), (453, 217 + 17 * v + k + 1)) ∈ eqE v st p := by
  suffices H : ∀ n, k < n → ((453, 217 + 17 * v + k), (453, 217 + 17 * v + k + 1)) ∈ (Nat.rec [] (fun k ih => Bool.rec ih (((453, 217 + 17 * v + k), (453, 217 + 17 * v + k + 1)) :: ih) (Nat.ble p k)) n : List ((Nat × Nat) × (Nat × Nat))) from H (st - 1) (by omega)
  intro n
  induction n with
  | zero => intro h; omega
  | succ n ih =>
    intro h
    show _ ∈ (Bool.rec (Nat.rec [] (fun k ih => Bool.rec ih (((453, 217 + 17 * v + k), (453, 217 + 17 * v + k + 1)) :: ih) (Nat.ble p k)) n) (((453, 217 + 17 * v + n), (453, 217 + 17 * v + n + 1)) :: (Nat.rec [] (fun k ih => Bool.rec ih (((453, 217 + 17 * v + k), (453, 217 + 17 * v + k + 1)) :: ih) (Nat.ble p k)) n)) (Nat.ble p n) : List ((Nat × Nat) × (Nat × Nat)))
    by_cases e : k = n
    · subst e
      rw [Nat.ble_eq_true_of_le h1]
      exact List.mem_cons_self
    · cases Nat.ble p n with
      | false => exact ih (by omega)
      | true => exact List.mem_cons_of_mem _ (ih (by omega))
noncomputable def chE1 (e v st p b : Nat) : Bool := Bool.rec false (xsegE kd0 sh0 rt0 bd0 un0 (inW (wE e v st p)) pr9 MT0 CT9 2 mdE [(((1, 0), (1, 0, 0), [k31 (216 + 17 * v) ((st : Int) - 1) ((st : Int) - 1), k31 (36 + 15 * e) 0 0], []), eqE v st p)] 2000 0 (spE e v st p b)) (ywsub (inW (ctE e).2.2.2.1) (wE e v st p))
/-- a side that can be -/
noncomputable def sdE (e p b : Nat) : Bool := allN 3 (fun q => Bool.rec true (Bool.rec (Nat.ble 1 e) (Nat.ble e 10) (Nat.testBit b q)) (Nat.blt q p))
noncomputable def chE2 (e : Nat) : Bool := allN 8 (fun v => allN 4 (fun st => allN 3 (fun p => Bool.rec true (allN 4 (fun b => Bool.rec true (Bool.rec true (chE1 e v st p b) (sdE e p b)) (Nat.blt b (2 ^ p)))) (Nat.blt p st))))
theorem chE_0 : chE2 0 = true := by decide +kernel
theorem chE_1 : chE2 1 = true := by decide +kernel
theorem chE_2 : chE2 2 = true := by decide +kernel
theorem chE_3 : chE2 3 = true := by decide +kernel
theorem chE_4 : chE2 4 = true := by decide +kernel
theorem chE_5 : chE2 5 = true := by decide +kernel
theorem chE_6 : chE2 6 = true := by decide +kernel
theorem chE_7 : chE2 7 = true := by decide +kernel
theorem chE_8 : chE2 8 = true := by decide +kernel
theorem chE_9 : chE2 9 = true := by decide +kernel
theorem chE_10 : chE2 10 = true := by decide +kernel
theorem chE_11 : chE2 11 = true := by decide +kernel
theorem chE : ∀ e, e < 12 → chE2 e = true := fun e he => match e, he with | 0, _ => chE_0 | 1, _ => chE_1 | 2, _ => chE_2 | 3, _ => chE_3 | 4, _ => chE_4 | 5, _ => chE_5 | 6, _ => chE_6 | 7, _ => chE_7 | 8, _ => chE_8 | 9, _ => chE_9 | 10, _ => chE_10 | 11, _ => chE_11 | n + 12, h => absurd h (by omega)
theorem allN_of {f : Nat → Bool} : ∀ {n : Nat}, (∀ c, c < n → f c = true) → allN n f = true := by
  intro n
  induction n with
  | zero => intro _; rfl
  | succ n ih =>
    intro h
    show (Bool.rec false (allN n f) (f n) : Bool) = true
    rw [h n (by omega), ih (fun c hc => h c (by omega))]
end CE9
