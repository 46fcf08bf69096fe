/-! packed rows, forks, compares -/
theorem pget_pset (p j k x : Nat) : pget (pset p j x) k = if k = j then x % 4294967296 else pget p k := by
  have e32 : (4294967296 : Nat) = 2 ^ 32 := rfl
  have hb : ∀ q i : Nat, (pget q j).testBit i = (decide (i < 32) && q.testBit (32 * j + i)) := by
    intro q i
    unfold pget
    rw [e32, Nat.testBit_mod_two_pow, Nat.testBit_shiftRight]
  by_cases hk : k = j
  · subst hk
    rw [if_pos rfl]
    apply Nat.eq_of_testBit_eq
    intro i
    unfold pget pset
    rw [e32, Nat.testBit_mod_two_pow, Nat.testBit_shiftRight, Nat.testBit_xor, Nat.testBit_shiftLeft, Nat.testBit_xor, hb, Nat.testBit_mod_two_pow]
    by_cases hi : i < 32
    · have e1 : 32 * k + i - 32 * k = i := by omega
      have e2 : decide (32 * k + i ≥ 32 * k) = true := by simp
      rw [e1, e2]
      simp only [hi, decide_true, Bool.true_and]
      rw [Nat.testBit_mod_two_pow]
      cases p.testBit (32 * k + i) <;> simp [hi]
    · have h9 := Nat.testBit_mod_two_pow x 32 i
      simp only [hi, decide_false, Bool.false_and] at h9 ⊢
      exact h9.symm
  · rw [if_neg hk]
    apply Nat.eq_of_testBit_eq
    intro i
    unfold pget pset
    rw [e32, Nat.testBit_mod_two_pow, Nat.testBit_shiftRight, Nat.testBit_xor, Nat.testBit_shiftLeft, Nat.testBit_xor, hb, Nat.testBit_mod_two_pow, Nat.testBit_mod_two_pow, Nat.testBit_shiftRight]
    by_cases hi : i < 32
    · rcases Nat.lt_or_gt_of_ne hk with q | q
      · have e2 : decide (32 * k + i ≥ 32 * j) = false := by simp; omega
        rw [e2]
        simp
      · have e3 : decide (32 * k + i - 32 * j < 32) = false := by simp; omega
        rw [e3]
        simp
    · simp [hi]
theorem aget_cons (p : Nat) (q : Nat × AV) (ov : List (Nat × AV)) (k : Nat) : aget p (q :: ov) k = if q.1 = k then q.2 else aget p ov k := by
  show (Bool.rec (aget p ov k) q.2 (Nat.beq q.1 k) : AV) = _
  cases h : Nat.beq q.1 k with
  | false => rw [if_neg (fun e => by rw [e, Nat.beq_refl] at h; cases h)]
  | true => rw [if_pos (Nat.eq_of_beq_eq_true h)]
theorem orm_cons (q : Nat × AV) (ov : List (Nat × AV)) (j : Nat) : orm (q :: ov) j = if q.1 = j then orm ov j else q :: orm ov j := by
  show (Bool.rec (q :: orm ov j) (orm ov j) (Nat.beq q.1 j) : List (Nat × AV)) = _
  cases h : Nat.beq q.1 j with
  | false => rw [if_neg (fun e => by rw [e, Nat.beq_refl] at h; cases h)]
  | true => rw [if_pos (Nat.eq_of_beq_eq_true h)]
theorem aget_orm (p p' j k : Nat) (hp : k ≠ j → pget p' k = pget p k) : ∀ ov : List (Nat × AV), aget p' (orm ov j) k = if k = j then vI (pget p' j) else aget p ov k := by
  intro ov
  induction ov with
  | nil =>
    by_cases h : k = j
    · rw [if_pos h, h]; rfl
    · rw [if_neg h]
      show vI (pget p' k) = vI (pget p k)
      rw [hp h]
  | cons q ov ih =>
    rw [orm_cons]
    by_cases hq : q.1 = j
    · rw [if_pos hq, ih]
      by_cases h : k = j
      · rw [if_pos h, if_pos h]
      · rw [if_neg h, if_neg h, aget_cons, if_neg (by omega)]
    · rw [if_neg hq, aget_cons, ih, aget_cons]
      by_cases h : k = j
      · rw [if_pos h, if_neg (by omega), if_pos h]
      · rw [if_neg h, if_neg h]
theorem app_some {a b : OR} {rs : List Res} (h : app a b = some rs) : ∃ x y, a = some x ∧ b = some y ∧ rs = x ++ y := by
  cases a with
  | none => cases h
  | some x =>
    cases b with
    | none => cases h
    | some y => cases h; exact ⟨x, y, rfl, rfl, rfl⟩
theorem nthE_nstE : ∀ (l : Env9) (i j : Nat) (v : Nat × Nat), nthE (nstE l i v) j = if j = i ∧ i < l.length then v else nthE l j := by
  intro l
  induction l with
  | nil =>
    intro i j v
    rw [if_neg (by simp)]
    rfl
  | cons x t ih =>
    intro i j v
    cases i with
    | zero =>
      cases j with
      | zero => rw [if_pos ⟨rfl, by simp⟩]; rfl
      | succ j => rw [if_neg (by omega)]; rfl
    | succ i =>
      cases j with
      | zero => rw [if_neg (by omega)]; rfl
      | succ j =>
        have h := ih i j v
        show nthE (nstE t i v) j = if j + 1 = i + 1 ∧ i + 1 < (x :: t).length then v else nthE t j
        rw [h]
        by_cases q : j = i ∧ i < t.length
        · rw [if_pos q, if_pos ⟨by omega, by simp; omega⟩]
        · rw [if_neg q, if_neg (by simp; omega)]
theorem envR_set {G : Gam} {E : Env9} {i lo hi : Nat} (hE : envR G E) (h1 : lo ≤ bi (toN (G.1 i))) (h2 : bi (toN (G.1 i)) ≤ hi) : envR G (nstE E i (lo, hi)) := by
  refine ⟨fun j => ?_, hE.2⟩
  rw [nthE_nstE]
  by_cases h : j = i ∧ i < E.length
  · rw [if_pos h, h.1]; exact ⟨h1, h2⟩
  · rw [if_neg h]; exact hE.1 j
theorem bi_bi2 (n : Nat) : bi (bi n) = n % 4294967296 := by
  unfold bi
  omega
/-- where a number's interval is a point -/
theorem envR_pt {G : Gam} {E : Env9} {i : Nat} (hE : envR G E) (h : Nat.beq (nthE E i).1 (nthE E i).2 = true) : G.1 i = nI (bi (nthE E i).1) := by
  have h1 := Nat.eq_of_beq_eq_true h
  have h2 := hE.1 i
  have h3 : (nthE E i).1 = bi (toN (G.1 i)) := by omega
  rw [h3, bi_bi2, nI_mod, nI_toN]
/-- what a fork gives: the branch that is taken was run -/
def tak (G : Gam) (rs : List Res) (k : Env9 → OR) : Prop := ∃ E' rs', k E' = some rs' ∧ (∀ r ∈ rs', r ∈ rs) ∧ envR G E'
theorem fork3_ok {G : Gam} {E : Env9} {i c : Nat} {kl ke kg : Env9 → OR} {rs : List Res} (h : fork3 E i c kl ke kg = some rs) (hE : envR G E) :
    (bi (toN (G.1 i)) < c → tak G rs kl) ∧ (bi (toN (G.1 i)) = c → tak G rs ke) ∧ (c < bi (toN (G.1 i)) → tak G rs kg) := by
  unfold fork3 at h
  rw [fN_eq, fN_eq] at h
  obtain ⟨x, y, hx, hy, hr⟩ := app_some h
  obtain ⟨y1, y2, hy1, hy2, hr2⟩ := app_some hy
  have hb := hE.1 i
  subst hr; subst hr2
  refine ⟨fun q => ?_, fun q => ?_, fun q => ?_⟩
  · have e1 : Nat.ble ((nthE E i).1 + 1) c = true := Nat.ble_eq_true_of_le (by omega)
    rw [e1] at hx
    refine ⟨_, x, hx, fun r hr => List.mem_append_left _ hr, envR_set hE hb.1 ?_⟩
    cases hq : Nat.ble (nthE E i).2 (c - 1) with
    | true => exact hb.2
    | false => show _ ≤ c - 1; omega
  · have e1 : Nat.ble (nthE E i).1 c = true := Nat.ble_eq_true_of_le (by omega)
    have e2 : Nat.ble c (nthE E i).2 = true := Nat.ble_eq_true_of_le (by omega)
    rw [e1, e2] at hy1
    exact ⟨_, y1, hy1, fun r hr => List.mem_append_right _ (List.mem_append_left _ hr), envR_set hE (by omega) (by omega)⟩
  · have e1 : Nat.ble (c + 1) (nthE E i).2 = true := Nat.ble_eq_true_of_le (by omega)
    rw [e1] at hy2
    refine ⟨_, y2, hy2, fun r hr => List.mem_append_right _ (List.mem_append_right _ hr), envR_set hE ?_ hb.2⟩
    cases hq : Nat.ble (c + 1) (nthE E i).1 with
    | true => exact hb.1
    | false => show c + 1 ≤ _; omega
theorem c3_eq (u w : Nat) (a b c : OR) : c3 u w a b c = if u < w then a else if u = w then b else c := by
  unfold c3
  cases q : Nat.ble (u + 1) w with
  | true =>
    have := Nat.le_of_ble_eq_true q
    rw [if_pos (by omega)]
  | false =>
    have q1 : ¬ u + 1 ≤ w := fun e => by rw [Nat.ble_eq_true_of_le e] at q; cases q
    rw [if_neg (by omega)]
    cases q2 : Nat.beq u w with
    | true => rw [if_pos (Nat.eq_of_beq_eq_true q2)]
    | false => rw [if_neg (fun e => by rw [e, Nat.beq_refl] at q2; cases q2)]
theorem cmp3_ok {G : Gam} {ρ : List Nat} {a b : AV} {x y : Int32} {E : Env9} {kl ke kg : Env9 → OR} {rs : List Res} (h : cmp3 a b E kl ke kg = some rs) (hE : envR G E) (ha : cz G ρ a (.int x)) (hb : cz G ρ b (.int y)) :
    (x < y → tak G rs kl) ∧ (x = y → tak G rs ke) ∧ (y < x → tak G rs kg) := by
  have self : ∀ (k : Env9 → OR), k E = some rs → tak G rs k := fun k hk => ⟨E, rs, hk, fun _ h => h, hE⟩
  have z0 : ∀ (o : Nat × Nat), Nat.beq o.2 0 = true → ∀ w : Int32, (Value.int w = .int (G.1 o.1 + nI o.2)) → w = nI (toN (G.1 o.1)) := by
    intro o ho w hw
    rw [Nat.eq_of_beq_eq_true ho] at hw
    rw [nI_toN]
    have h1 := Value.int.inj hw
    rw [h1]
    show G.1 o.1 + 0 = G.1 o.1
    simp
  rcases a with n | k | n | o | i | w | n | n
  · have hx : x = nI n := Value.int.inj ha
    rcases b with n' | k | n' | o' | i | w | n' | n'
    · have hy : y = nI n' := Value.int.inj hb
      subst hx; subst hy
      have h' : c3 (bi n) (bi n') (kl E) (ke E) (kg E) = some rs := h
      rw [c3_eq] at h'
      rw [nI_lt_iff, nI_eq_iff, nI_lt_iff]
      by_cases q : bi n < bi n'
      · rw [if_pos q] at h'
        exact ⟨fun _ => self _ h', fun e => by omega, fun e => by omega⟩
      · rw [if_neg q] at h'
        by_cases q2 : bi n = bi n'
        · rw [if_pos q2] at h'
          exact ⟨fun e => absurd e q, fun _ => self _ h', fun e => by omega⟩
        · rw [if_neg q2] at h'
          exact ⟨fun e => absurd e q, fun e => absurd e q2, fun _ => self _ h'⟩
    · cases h
    · cases h
    · cases o' with
      | none => cases h
      | some o =>
        have h' : gd (Nat.beq o.2 0) (fork3 E o.1 (bi n) kg ke kl) = some rs := h
        obtain ⟨h0, h1⟩ := gd_some h'
        have hy := z0 o h0 y hb
        obtain ⟨f1, f2, f3⟩ := fork3_ok h1 hE
        subst hx; subst hy
        rw [nI_lt_iff, nI_eq_iff, nI_lt_iff]
        exact ⟨f3, fun e => f2 e.symm, f1⟩
    all_goals cases h
  · cases h
  · cases h
  · cases o with
    | none => rcases b with n' | k | n' | o' | i | w | n' | n' <;> cases h
    | some o =>
      rcases b with n' | k | n' | o' | i | w | n' | n'
      · have hy : y = nI n' := Value.int.inj hb
        have h' : gd (Nat.beq o.2 0) (fork3 E o.1 (bi n') kl ke kg) = some rs := h
        obtain ⟨h0, h1⟩ := gd_some h'
        have hx := z0 o h0 x ha
        obtain ⟨f1, f2, f3⟩ := fork3_ok h1 hE
        subst hx; subst hy
        rw [nI_lt_iff, nI_eq_iff, nI_lt_iff]
        exact ⟨f1, f2, f3⟩
      · cases h
      · cases h
      · cases o' with
        | none => cases h
        | some o' =>
          have h' : gd (Nat.beq o.1 o'.1) (gd (Nat.beq o.2 o'.2) (ke E)) = some rs := h
          obtain ⟨h0, h1⟩ := gd_some h'
          obtain ⟨h2, h3⟩ := gd_some h1
          have hxy : x = y := by
            have hx : x = G.1 o.1 + nI o.2 := Value.int.inj ha
            have hy : y = G.1 o'.1 + nI o'.2 := Value.int.inj hb
            rw [hx, hy, Nat.eq_of_beq_eq_true h0, Nat.eq_of_beq_eq_true h2]
          subst hxy
          exact ⟨fun e => absurd e (Int32.lt_irrefl), fun _ => self _ h3, fun e => absurd e (Int32.lt_irrefl)⟩
      all_goals cases h
  all_goals cases h
theorem addK_ok {G : Gam} {ρ : List Nat} {a b : AV} {x y : Int32} {f : AV → OR} {rs : List Res} (h : addK a b f = some rs) (ha : cz G ρ a (.int x)) (hb : cz G ρ b (.int y)) : ∃ w, f w = some rs ∧ cz G ρ w (.int (x + y)) := by
  have any : ∀ w : Int32, cz G ρ (vX none) (.int w) := fun w => ⟨w, rfl⟩
  have key : ∀ (o : Nat × Nat) (n : Nat) (u v : Int32), cz G ρ (vX (some o)) (.int u) → v = nI n → cz G ρ (vX (some (o.1, (o.2 + n) % 4294967296))) (.int (u + v)) := by
    intro o n u v hu hv
    have hu' : u = G.1 o.1 + nI o.2 := Value.int.inj hu
    show Value.int (u + v) = .int (G.1 o.1 + nI ((o.2 + n) % 4294967296))
    rw [nI_ad9, hu', hv, Int32.add_assoc]
  rcases a with n | k | n | o | i | w | n | n
  · have hx : x = nI n := Value.int.inj ha
    rcases b with n' | k | n' | o' | i | w | n' | n'
    · have hy : y = nI n' := Value.int.inj hb
      have h' : fN ((n + n') % 4294967296) (fun r => f (.inl r)) = some rs := h
      rw [fN_eq] at h'
      exact ⟨_, h', by show Value.int (x + y) = _; rw [hx, hy, nI_ad9]⟩
    · cases hb.choose_spec.2
    · cases hb
    · cases o' with
      | none => exact ⟨_, h, any _⟩
      | some o => exact ⟨_, h, by rw [Int32.add_comm]; exact key o n y x hb hx⟩
    · cases hb
    · exact ⟨_, h, any _⟩
    · cases hb
    · cases hb
  · cases ha.choose_spec.2
  · cases ha
  · cases o with
    | none => rcases b with n' | k | n' | o' | i | w | n' | n' <;> exact ⟨_, h, any _⟩
    | some o =>
      rcases b with n' | k | n' | o' | i | w | n' | n'
      · exact ⟨_, h, key o n' x y ha (Value.int.inj hb)⟩
      all_goals exact ⟨_, h, any _⟩
  · cases ha
  · rcases b with n' | k | n' | o' | i | w | n' | n' <;> exact ⟨_, h, any _⟩
  · cases ha
  · cases ha
theorem biK_ok {G : Gam} {ρ : List Nat} {a b : AV} {x y : Int32} {g : Nat → Nat → Nat} {op : Int32 → Int32 → Int32} {f : AV → OR} {rs : List Res} (h : biK g a b f = some rs) (ha : cz G ρ a (.int x)) (hb : cz G ρ b (.int y)) (hg : ∀ u v, nI (g u v) = op (nI u) (nI v)) : ∃ w, f w = some rs ∧ cz G ρ w (.int (op x y)) := by
  have any : ∀ w : Int32, cz G ρ (vX none) (.int w) := fun w => ⟨w, rfl⟩
  rcases a with n | k | n | o | i | w | n | n
  · have hx : x = nI n := Value.int.inj ha
    rcases b with n' | k | n' | o' | i | w | n' | n'
    · have hy : y = nI n' := Value.int.inj hb
      have h' : fN (g n n') (fun r => f (.inl r)) = some rs := h
      rw [fN_eq] at h'
      exact ⟨_, h', by show Value.int (op x y) = .int (nI (g n n')); rw [hg, hx, hy]⟩
    all_goals exact ⟨_, h, any _⟩
  all_goals exact ⟨_, h, any _⟩
theorem unK_ok {G : Gam} {ρ : List Nat} {a : AV} {x : Int32} {g : Nat → Nat} {op : Int32 → Int32} {f : AV → OR} {rs : List Res} (h : unK g a f = some rs) (ha : cz G ρ a (.int x)) (hg : ∀ u, nI (g u) = op (nI u)) : ∃ w, f w = some rs ∧ cz G ρ w (.int (op x)) := by
  have any : ∀ w : Int32, cz G ρ (vX none) (.int w) := fun w => ⟨w, rfl⟩
  rcases a with n | k | n | o | i | w | n | n
  · have hx : x = nI n := Value.int.inj ha
    have h' : fN (g n) (fun r => f (.inl r)) = some rs := h
    rw [fN_eq] at h'
    exact ⟨_, h', by show Value.int (op x) = .int (nI (g n)); rw [hg, hx]⟩
  all_goals exact ⟨_, h, any _⟩
theorem joinR_ok {f : Res → OR} : ∀ {l : List Res} {rs : List Res}, joinR f l = some rs → ∀ r ∈ l, ∃ rs', f r = some rs' ∧ ∀ q ∈ rs', q ∈ rs := by
  intro l
  induction l with
  | nil => intro rs _ r hr; cases hr
  | cons a l ih =>
    intro rs h r hr
    have h' : app (f a) (joinR f l) = some rs := h
    obtain ⟨x, y, hx, hy, he⟩ := app_some h'
    subst he
    rcases List.mem_cons.mp hr with h1 | h1
    · subst h1; exact ⟨x, hx, fun q hq => List.mem_append_left _ hq⟩
    · obtain ⟨rs', g1, g2⟩ := ih hy r h1
      exact ⟨rs', g1, fun q hq => List.mem_append_right _ (g2 q hq)⟩
theorem spl_spec {G : Gam} {ρ : List Nat} : ∀ (na : Nat) (acc S : List AV) (vacc st : List Value), na ≤ S.length → czs G ρ acc vacc → czs G ρ S st → ∃ vs rest, st = vs.reverse ++ rest ∧ vs.length = na ∧ czs G ρ (spl na acc S).1 (vs ++ vacc) ∧ czs G ρ (spl na acc S).2 rest := by
  intro na
  induction na with
  | zero => intro acc S vacc st _ h1 h2; exact ⟨[], st, rfl, rfl, h1, h2⟩
  | succ na ih =>
    intro acc S vacc st hl h1 h2
    cases S with
    | nil => simp at hl
    | cons a S =>
      obtain ⟨v, st', rfl, g1, g2⟩ := czs_cons h2
      obtain ⟨vs, rest, e1, e2, e3, e4⟩ := ih (a :: acc) S (v :: vacc) st' (by simpa using hl) ⟨g1, h1⟩ g2
      refine ⟨vs ++ [v], rest, by rw [e1]; simp, by simp [e2], ?_, e4⟩
      have e5 : vs ++ [v] ++ vacc = vs ++ v :: vacc := by simp
      rw [e5]
      exact e3
theorem toNL_lN (n : Nat) (h : n < 18446744073709551616) : toNL (lN n) = n := by
  unfold toNL lN
  simp
  omega
theorem lg_cmp_i2l (x y : Int32) : lg_cmp x.toInt64 y.toInt64 = if y < x then 1 else if x = y then 0 else -1 := by
  unfold lg_cmp
  have h1 : (x.toInt64 > y.toInt64) ↔ y < x := by
    show y.toInt64 < x.toInt64 ↔ _
    rw [Int64.lt_iff_toInt_lt, Int32.lt_iff_toInt_lt]
    simp
  have h2 : (x.toInt64 = y.toInt64) ↔ x = y := by
    constructor
    · intro h
      apply Int32.toInt_inj.mp
      have := congrArg Int64.toInt h
      simpa using this
    · intro h; rw [h]
  simp only [h1, h2]
