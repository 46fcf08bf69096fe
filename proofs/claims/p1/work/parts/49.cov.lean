/-! each case: the script's numbers split -/
def Each (l : Launch) (D : va_G) (G : Gam) (A : Nat → Prop) (i : Nat) : Prop := ∃ (g : Nat → Int32) (call : Call) (E : Env9), (∀ j, j < 6 → g j = G.1 j) ∧ CallOK l D (g, G.2) A infT call ∧ envR (g, G.2) E ∧ allR lEnd (runF call 9 (ct_L_law 6) fuel9 (nthN swT swD i) E 466 15522 L1 [] M1) = true
noncomputable def chn (l : List (Nat × Nat)) : Nat → Bool := List.rec (motive := fun _ => Nat → Bool) (fun s => Nat.beq s 4294967296) (fun q _ ih s => Bool.rec false (ih (q.2 + 1)) (Nat.beq q.1 s)) l
theorem chn_cov : ∀ (l : List (Nat × Nat)) (s v : Nat), chn l s = true → s ≤ v → v ≤ 4294967295 → ∃ q, q ∈ l ∧ q.1 ≤ v ∧ v ≤ q.2 := by
  intro l
  induction l with
  | nil =>
    intro s v h h1 h2
    have := Nat.eq_of_beq_eq_true (show Nat.beq s 4294967296 = true from h)
    omega
  | cons q l ih =>
    intro s v h h1 h2
    have h9 : (Bool.rec false (chn l (q.2 + 1)) (Nat.beq q.1 s) : Bool) = true := h
    cases h3 : Nat.beq q.1 s with
    | false => rw [h3] at h9; cases h9
    | true =>
      rw [h3] at h9
      have e := Nat.eq_of_beq_eq_true h3
      by_cases k : v ≤ q.2
      · exact ⟨q, List.mem_cons_self, by omega, k⟩
      · obtain ⟨q', k1, k2⟩ := ih (q.2 + 1) v h9 (by omega) h2
        exact ⟨q', List.mem_cons_of_mem _ k1, k2⟩
noncomputable def allI {α : Type} (f : α → Bool) (l : List α) : Bool := List.rec true (fun q _ ih => Bool.rec false ih (f q)) l
theorem allI_mem {α : Type} {f : α → Bool} : ∀ {l : List α}, allI f l = true → ∀ q ∈ l, f q = true := by
  intro l
  induction l with
  | nil => intro _ q h; cases h
  | cons a l ih =>
    intro h q hq
    have h9 : (Bool.rec false (allI f l) (f a) : Bool) = true := h
    cases h1 : f a with
    | false => rw [h1] at h9; cases h9
    | true =>
      rw [h1] at h9
      rcases List.mem_cons.mp hq with e | e
      · rw [e]; exact h1
      · exact ih h9 q e
noncomputable def ru (call : Call) (i : Nat) (E : Env9) : Bool := allR lEnd (runF call 9 (ct_L_law 6) fuel9 (nthN swT swD i) E 466 15522 L1 [] M1)
noncomputable def ca2 (call : Call) (i : Nat) (l1 l2 : List (Nat × Nat)) : Bool := allI (fun a => allI (fun b => ru call i (mkE a b fu9 fu9)) l2) l1
theorem fu9_in (x : Int32) : fu9.1 ≤ bi (toN x) ∧ bi (toN x) ≤ fu9.2 := ⟨Nat.zero_le _, bi_le _⟩
theorem each0 {l : Launch} {D : va_G} {G : Gam} {A : Nat → Prop} {call : Call} (hc : CallOK l D G A infT call) (h6 : G.1 6 = G.1 1 - G.1 1 / 3 * 3) {i : Nat} (h : allR lEnd (runF call 9 (ct_L_law 6) fuel9 (nthN swT swD i) E0 466 15522 L1 [] M1) = true) : Each l D G A i := ⟨G.1, call, E0, fun _ _ => rfl, hc, E0_ok G h6, h⟩
theorem each1 {l : Launch} {D : va_G} {G : Gam} {A : Nat → Prop} {call : Call} (hc : CallOK l D G A infT call) (h6 : G.1 6 = G.1 1 - G.1 1 / 3 * 3) {i : Nat} {l1 l2 : List (Nat × Nat)} {a b : Nat × Nat} (ha : a ∈ l1) (hb : b ∈ l2) (k1 : a.1 ≤ bi (toN (G.1 1)) ∧ bi (toN (G.1 1)) ≤ a.2) (k2 : b.1 ≤ bi (toN (G.1 2)) ∧ bi (toN (G.1 2)) ≤ b.2) (h : ca2 call i l1 l2 = true) : Each l D G A i :=
  ⟨G.1, call, mkE a b fu9 fu9, fun _ _ => rfl, hc, mkE_R h6 k1 k2 (fu9_in _) (fu9_in _), allI_mem (allI_mem h a ha) b hb⟩
theorem each2 {l : Launch} {D : va_G} {G : Gam} {A : Nat → Prop} {call : Call} (hc : CallOK l D G A infT call) (h6 : G.1 6 = G.1 1 - G.1 1 / 3 * 3) {i : Nat} {l1 l2 : List (Nat × Nat)} (h1 : chn l1 0 = true) (h2 : chn l2 0 = true) (h : ca2 call i l1 l2 = true) : Each l D G A i := by
  obtain ⟨a, a1, a2⟩ := chn_cov l1 0 _ h1 (Nat.zero_le _) (bi_le (toN (G.1 1)))
  obtain ⟨b, b1, b2⟩ := chn_cov l2 0 _ h2 (Nat.zero_le _) (bi_le (toN (G.1 2)))
  exact each1 hc h6 a1 b1 a2 b2 h
/-- below 0; 0, 1, 2, 3; from 4 on -/
def iv4 : List (Nat × Nat) := [(0, 2147483647), (2147483648, 2147483648), (2147483649, 2147483649), (2147483650, 2147483650), (2147483651, 2147483651), (2147483652, 4294967295)]
def iv0 : List (Nat × Nat) := [(0, 4294967295)]
theorem chn4 : chn iv4 0 = true := by decide +kernel
theorem chn0 : chn iv0 0 = true := by decide +kernel
/-- the day's remainder by 3 -/
theorem rem_in (x : Int32) (h1 : 2147483648 ≤ bi (toN x)) (h2 : bi (toN x) ≤ 2147493647) : ∃ r, r < 3 ∧ bi (toN (x - x / 3 * 3)) = 2147483648 + r := by
  have e0 : ∃ n : Nat, n ≤ 9999 ∧ x = nI n := by
    refine ⟨toN x, ?_, (nI_toN x).symm⟩
    have : toN x < 4294967296 := by unfold toN; exact x.toUInt32.toNat_lt
    unfold bi at h1 h2
    omega
  obtain ⟨n, hn, rfl⟩ := e0
  refine ⟨n % 3, Nat.mod_lt _ (by omega), ?_⟩
  have hi : ∀ m : Nat, m ≤ 9999 → (nI m).toInt = (m : Int) := by
    intro m hm
    unfold nI
    rw [Int32.toInt_ofNat_of_lt (by omega)]
  have h3 : nI n / 3 = nI (n / 3) := by
    apply Int32.toInt_inj.mp
    rw [Int32.toInt_div, hi n hn, hi (n / 3) (by omega)]
    have e3 : (3 : Int32).toInt = 3 := rfl
    rw [e3, Int.tdiv_eq_ediv_of_nonneg (by omega)]
    rw [Int.bmod_eq_of_le (by omega) (by omega)]
    omega
  have h4 : nI n - nI n / 3 * 3 = nI (n % 3) := by
    rw [h3]
    apply Int32.toInt_inj.mp
    rw [Int32.toInt_sub, Int32.toInt_mul, hi n hn, hi (n / 3) (by omega), hi (n % 3) (by omega)]
    have e3 : (3 : Int32).toInt = 3 := rfl
    rw [e3]
    rw [Int.bmod_eq_of_le (n := (n / 3 : Nat) * 3) (by omega) (by omega)]
    rw [Int.bmod_eq_of_le (by omega) (by omega)]
    omega
  rw [h4]
  have h5 : n % 3 < 3 := Nat.mod_lt _ (by omega)
  have h6 : toN (nI (n % 3)) = n % 3 := by
    unfold toN nI
    simp
    omega
  rw [h6]
  unfold bi
  omega
noncomputable def cF (call : Call) (i : Nat) : Bool := allI (fun r => ru call i (mkE (2147483648, 2147493647) fu9 r fu9)) [(2147483648, 2147483648), (2147483649, 2147483649), (2147483650, 2147483650)]
theorem eachF {l : Launch} {D : va_G} {G : Gam} {A : Nat → Prop} {call : Call} (hc : CallOK l D G A infT call) (h6 : G.1 6 = G.1 1 - G.1 1 / 3 * 3) {i : Nat} (h : ca2 call i [(0, 2147483647), (2147493648, 4294967295)] iv0 = true) (hF : cF call i = true) : Each l D G A i := by
  have hb := bi_le (toN (G.1 1))
  by_cases k1 : bi (toN (G.1 1)) ≤ 2147483647
  · exact each1 hc h6 (a := (0, 2147483647)) (b := (0, 4294967295)) List.mem_cons_self List.mem_cons_self ⟨Nat.zero_le _, k1⟩ (fu9_in _) h
  · by_cases k2 : 2147493648 ≤ bi (toN (G.1 1))
    · exact each1 hc h6 (a := (2147493648, 4294967295)) (b := (0, 4294967295)) (List.mem_cons_of_mem _ List.mem_cons_self) List.mem_cons_self ⟨k2, hb⟩ (fu9_in _) h
    · have k3 : 2147483648 ≤ bi (toN (G.1 1)) ∧ bi (toN (G.1 1)) ≤ 2147493647 := ⟨by omega, by omega⟩
      obtain ⟨r, hr, e⟩ := rem_in (G.1 1) k3.1 k3.2
      rw [← h6] at e
      refine ⟨G.1, call, mkE (2147483648, 2147493647) fu9 (2147483648 + r, 2147483648 + r) fu9, fun _ _ => rfl, hc, mkE_R h6 k3 (fu9_in _) ⟨Nat.le_of_eq e.symm, Nat.le_of_eq e⟩ (fu9_in _), ?_⟩
      refine allI_mem hF (2147483648 + r, 2147483648 + r) ?_
      have : r = 0 ∨ r = 1 ∨ r = 2 := by omega
      rcases this with rfl | rfl | rfl
      · exact List.mem_cons_self
      · exact List.mem_cons_of_mem _ List.mem_cons_self
      · exact List.mem_cons_of_mem _ (List.mem_cons_of_mem _ List.mem_cons_self)
/-! the answer as the number 8 -/
noncomputable def g8 (G : Gam) (x : Nat) : Nat → Int32 := fun j => if j = 8 then nI (bi x) else G.1 j
theorem toN_nI (m : Nat) : toN (nI m) = m % 4294967296 := by
  unfold toN nI
  simp
theorem g8_in {G : Gam} {x : Nat} (hx : x ≤ 4294967295) : bi (toN (g8 G x 8)) = x := by
  show bi (toN (if 8 = 8 then nI (bi x) else G.1 8)) = x
  rw [if_pos rfl, toN_nI]
  unfold bi
  omega
noncomputable def pt (x : Nat) : Nat × Nat := (x, x)
theorem g8_lo {G : Gam} {x j : Nat} (h : j < 6) : g8 G x j = G.1 j := by
  unfold g8
  exact if_neg (by omega)
theorem pt_in (v : Nat) : (pt v).1 ≤ v ∧ v ≤ (pt v).2 := ⟨Nat.le_refl v, Nat.le_refl v⟩
theorem mkE_8 {G : Gam} {x : Nat} {a b : Nat × Nat} (h6 : G.1 6 = G.1 1 - G.1 1 / 3 * 3) (hx : x ≤ 4294967295) (ha : a.1 ≤ bi (toN (G.1 1)) ∧ bi (toN (G.1 1)) ≤ a.2) (hb : b.1 ≤ bi (toN (G.1 2)) ∧ bi (toN (G.1 2)) ≤ b.2) : envR (g8 G x, G.2) (mkE a b fu9 (pt x)) := by
  have q1 : (g8 G x, G.2).1 1 = G.1 1 := by
    show g8 G x 1 = G.1 1
    unfold g8
    exact if_neg (by decide)
  have q2 : (g8 G x, G.2).1 2 = G.1 2 := by
    show g8 G x 2 = G.1 2
    unfold g8
    exact if_neg (by decide)
  have q6 : (g8 G x, G.2).1 6 = G.1 6 := by
    show g8 G x 6 = G.1 6
    unfold g8
    exact if_neg (by decide)
  have q8 : bi (toN ((g8 G x, G.2).1 8)) = x := g8_in (G := G) hx
  refine mkE_R ?_ ?_ ?_ (fu9_in _) ?_
  · rw [q6, q1]; exact h6
  · rw [q1]; exact ha
  · rw [q2]; exact hb
  · rw [q8]; exact pt_in x
noncomputable def run8 (call : Call) (i : Nat) (a b x : Nat) : Bool := Bool.rec false (ru call i (mkE (pt a) (pt b) fu9 (pt x))) (Nat.ble x 4294967295)
noncomputable def row8 (call : Call) (i : Nat) (a : Nat) (l : List Nat) : Nat → Bool := List.rec (motive := fun _ => Nat → Bool) (fun _ => true) (fun x _ ih b => Bool.rec false (ih (b + 1)) (run8 call i a b x)) l
noncomputable def tab8 (call : Call) (i : Nat) (l : List (List Nat)) : Nat → Bool := List.rec (motive := fun _ => Nat → Bool) (fun _ => true) (fun x _ ih a => Bool.rec false (ih (a + 1)) (row8 call i a x 2147483648)) l
theorem row8_get {call : Call} {i a : Nat} : ∀ {l : List Nat} {s : Nat}, row8 call i a l s = true → ∀ k, k < l.length → ∃ x, run8 call i a (s + k) x = true := by
  intro l
  induction l with
  | nil => intro s _ k h; exact absurd h (Nat.not_lt_zero _)
  | cons x l ih =>
    intro s h k hk
    have h9 : (Bool.rec false (row8 call i a l (s + 1)) (run8 call i a s x) : Bool) = true := h
    cases h1 : run8 call i a s x with
    | false => rw [h1] at h9; cases h9
    | true =>
      rw [h1] at h9
      cases k with
      | zero => exact ⟨x, h1⟩
      | succ k =>
        obtain ⟨x', e⟩ := ih h9 k (by simpa using hk)
        exact ⟨x', by rw [show s + (k + 1) = s + 1 + k by omega]; exact e⟩
theorem tab8_get {call : Call} {i n : Nat} : ∀ {l : List (List Nat)} {s : Nat}, tab8 call i l s = true → (∀ r ∈ l, r.length = n) → ∀ k, k < l.length → ∀ d, d < n → ∃ x, run8 call i (s + k) (2147483648 + d) x = true := by
  intro l
  induction l with
  | nil => intro s _ _ k h; exact absurd h (Nat.not_lt_zero _)
  | cons r l ih =>
    intro s h hl k hk d hd
    have h9 : (Bool.rec false (tab8 call i l (s + 1)) (row8 call i s r 2147483648) : Bool) = true := h
    cases h1 : row8 call i s r 2147483648 with
    | false => rw [h1] at h9; cases h9
    | true =>
      rw [h1] at h9
      cases k with
      | zero => exact row8_get h1 d (by rw [hl r List.mem_cons_self]; exact hd)
      | succ k =>
        obtain ⟨x', e⟩ := ih h9 (fun r hr => hl r (List.mem_cons_of_mem _ hr)) k (by simpa using hk) d hd
        exact ⟨x', by rw [show s + (k + 1) = s + 1 + k by omega]; exact e⟩
theorem tab8_cons {call : Call} {i s : Nat} {r : List Nat} {l : List (List Nat)} (h1 : row8 call i s r 2147483648 = true) (h2 : tab8 call i l (s + 1) = true) : tab8 call i (r :: l) s = true := by
  show (Bool.rec false (tab8 call i l (s + 1)) (row8 call i s r 2147483648) : Bool) = true
  rw [h1]
  exact h2
theorem run8_is {call : Call} {i a b x : Nat} (h : run8 call i a b x = true) : x ≤ 4294967295 ∧ ru call i (mkE (pt a) (pt b) fu9 (pt x)) = true := by
  have h9 : (Bool.rec false (ru call i (mkE (pt a) (pt b) fu9 (pt x))) (Nat.ble x 4294967295) : Bool) = true := h
  cases h1 : Nat.ble x 4294967295 with
  | false => rw [h1] at h9; cases h9
  | true => rw [h1] at h9; exact ⟨Nat.le_of_ble_eq_true h1, h9⟩
/-- two numbers, both in small ranges: na of the first, nb of the second -/
theorem each8g {l : Launch} {D : va_G} {G : Gam} {A : Nat → Prop} {c0 : Call} (hc : ∀ G, CallOK l D G A infT c0) (h6 : G.1 6 = G.1 1 - G.1 1 / 3 * 3) {i na nb : Nat} (hna : na ≤ 1000) (hnb : nb ≤ 1000) (h1 : ca2 c0 i [(0, 2147483647), (2147483648 + na, 4294967295)] iv0 = true) (h2 : ca2 c0 i [(2147483648, 2147483647 + na)] [(0, 2147483647), (2147483648 + nb, 4294967295)] = true)
    (hrow : ∀ k, k < na → ∃ call : Call, (∀ G, CallOK l D G A infT call) ∧ ∀ d, d < nb → ∃ x, run8 call i (2147483648 + k) (2147483648 + d) x = true) : Each l D G A i := by
  have hb1 := bi_le (toN (G.1 1))
  have hb2 := bi_le (toN (G.1 2))
  by_cases k1 : bi (toN (G.1 1)) ≤ 2147483647
  · exact each1 (hc G) h6 (a := (0, 2147483647)) (b := (0, 4294967295)) List.mem_cons_self List.mem_cons_self ⟨Nat.zero_le _, k1⟩ (fu9_in _) h1
  by_cases k2 : 2147483648 + na ≤ bi (toN (G.1 1))
  · exact each1 (hc G) h6 (a := (2147483648 + na, 4294967295)) (b := (0, 4294967295)) (List.mem_cons_of_mem _ List.mem_cons_self) List.mem_cons_self ⟨k2, hb1⟩ (fu9_in _) h1
  have k3 : 2147483648 ≤ bi (toN (G.1 1)) ∧ bi (toN (G.1 1)) ≤ 2147483647 + na := ⟨by omega, by omega⟩
  by_cases k4 : bi (toN (G.1 2)) ≤ 2147483647
  · exact each1 (hc G) h6 (a := (2147483648, 2147483647 + na)) (b := (0, 2147483647)) List.mem_cons_self List.mem_cons_self k3 ⟨Nat.zero_le _, k4⟩ h2
  by_cases k5 : 2147483648 + nb ≤ bi (toN (G.1 2))
  · exact each1 (hc G) h6 (a := (2147483648, 2147483647 + na)) (b := (2147483648 + nb, 4294967295)) List.mem_cons_self (List.mem_cons_of_mem _ List.mem_cons_self) k3 ⟨k5, hb2⟩ h2
  obtain ⟨call, hc9, hr⟩ := hrow (bi (toN (G.1 1)) - 2147483648) (by omega)
  obtain ⟨x, hx⟩ := hr (bi (toN (G.1 2)) - 2147483648) (by omega)
  obtain ⟨x1, x2⟩ := run8_is hx
  rw [show 2147483648 + (bi (toN (G.1 1)) - 2147483648) = bi (toN (G.1 1)) by omega, show 2147483648 + (bi (toN (G.1 2)) - 2147483648) = bi (toN (G.1 2)) by omega] at x2
  exact ⟨g8 G x, call, _, fun j hj => g8_lo hj, hc9 _, mkE_8 h6 x1 (pt_in _) (pt_in _), x2⟩
theorem each8 {l : Launch} {D : va_G} {G : Gam} {A : Nat → Prop} {call : Call} (hc : ∀ G, CallOK l D G A infT call) (h6 : G.1 6 = G.1 1 - G.1 1 / 3 * 3) {i na nb : Nat} (hna : na ≤ 1000) (hnb : nb ≤ 1000) {t : List (List Nat)} (h1 : ca2 call i [(0, 2147483647), (2147483648 + na, 4294967295)] iv0 = true) (h2 : ca2 call i [(2147483648, 2147483647 + na)] [(0, 2147483647), (2147483648 + nb, 4294967295)] = true) (ht : t.length = na) (ht2 : ∀ r ∈ t, r.length = nb) (h3 : tab8 call i t 2147483648 = true) : Each l D G A i :=
  each8g hc h6 hna hnb h1 h2 (fun k hk => ⟨call, hc, fun d hd => tab8_get h3 ht2 k (by rw [ht]; exact hk) d hd⟩)
noncomputable def one8 (call : Call) (i : Nat) (l : List Nat) : Nat → Bool := List.rec (motive := fun _ => Nat → Bool) (fun _ => true) (fun x _ ih a => Bool.rec false (ih (a + 1)) (Bool.rec false (ru call i (mkE (pt a) fu9 fu9 (pt x))) (Nat.ble x 4294967295))) l
theorem one8_get {call : Call} {i : Nat} : ∀ {l : List Nat} {s : Nat}, one8 call i l s = true → ∀ k, k < l.length → ∃ x, x ≤ 4294967295 ∧ ru call i (mkE (pt (s + k)) fu9 fu9 (pt x)) = true := by
  intro l
  induction l with
  | nil => intro s _ k h; exact absurd h (Nat.not_lt_zero _)
  | cons x l ih =>
    intro s h k hk
    have h9 : (Bool.rec false (one8 call i l (s + 1)) (Bool.rec false (ru call i (mkE (pt s) fu9 fu9 (pt x))) (Nat.ble x 4294967295)) : Bool) = true := h
    cases h2 : Nat.ble x 4294967295 with
    | false => rw [h2] at h9; cases h9
    | true =>
      rw [h2] at h9
      cases h1 : ru call i (mkE (pt s) fu9 fu9 (pt x)) with
      | false => rw [h1] at h9; cases h9
      | true =>
        rw [h1] at h9
        cases k with
        | zero => exact ⟨x, Nat.le_of_ble_eq_true h2, h1⟩
        | succ k =>
          obtain ⟨x', e⟩ := ih h9 k (by simpa using hk)
          exact ⟨x', by rw [show s + (k + 1) = s + 1 + k by omega]; exact e⟩
/-- one number in a small range -/
theorem each9 {l : Launch} {D : va_G} {G : Gam} {A : Nat → Prop} {call : Call} (hc : ∀ G, CallOK l D G A infT call) (h6 : G.1 6 = G.1 1 - G.1 1 / 3 * 3) {i lo na : Nat} (hna : na ≤ 1000) (hlo : lo ≤ 10) {t : List Nat} (h1 : ca2 call i [(0, 2147483647 + lo), (2147483648 + lo + na, 4294967295)] iv0 = true) (ht : t.length = na) (h3 : one8 call i t (2147483648 + lo) = true) : Each l D G A i := by
  have hb1 := bi_le (toN (G.1 1))
  by_cases k1 : bi (toN (G.1 1)) ≤ 2147483647 + lo
  · exact each1 (hc G) h6 (a := (0, 2147483647 + lo)) (b := (0, 4294967295)) List.mem_cons_self List.mem_cons_self ⟨Nat.zero_le _, k1⟩ (fu9_in _) h1
  by_cases k2 : 2147483648 + lo + na ≤ bi (toN (G.1 1))
  · exact each1 (hc G) h6 (a := (2147483648 + lo + na, 4294967295)) (b := (0, 4294967295)) (List.mem_cons_of_mem _ List.mem_cons_self) List.mem_cons_self ⟨k2, hb1⟩ (fu9_in _) h1
  obtain ⟨x, x1, x2⟩ := one8_get h3 (bi (toN (G.1 1)) - (2147483648 + lo)) (by rw [ht]; omega)
  rw [show 2147483648 + lo + (bi (toN (G.1 1)) - (2147483648 + lo)) = bi (toN (G.1 1)) by omega] at x2
  exact ⟨g8 G x, call, _, fun j hj => g8_lo hj, hc _, mkE_8 h6 x1 (pt_in _) (fu9_in _), x2⟩
