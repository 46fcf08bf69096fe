/-! the start is good -/
noncomputable def inb (lo hi x : Int) : Bool := Bool.rec false (ile x hi) (ile lo x)
theorem inb_ok {lo hi x : Int} (h : inb lo hi x = true) : lo ≤ x ∧ x ≤ hi := by
  obtain ⟨h1, h2⟩ := band (show (Bool.rec false (ile x hi) (ile lo x) : Bool) = true from h)
  exact ⟨ile_iff.mp h1, ile_iff.mp h2⟩
noncomputable def fOKb (k i ft : Nat) (v : AV) : Bool := match ft with
  | 0 => (match v with | .inl x => Bool.rec false (inb (bd0 (kd0 k) i).1 (bd0 (kd0 k) i).2 (sg x)) (Nat.ble (x + 1) 4294967296) | _ => false)
  | 1 => (match v with | .inr (.inr (.inl _)) => true | _ => false)
  | f + 2 => (match v with | .inr (.inl r) => Bool.rec false (Bool.rec false (Nat.ble (r + 1) 466) (Nat.beq (kd0 r) f)) (Nat.beq (rt0 k i) r) | _ => false)
theorem fOKb_ok {k i ft : Nat} {v : AV} (h : fOKb k i ft v = true) : fOK kd0 rt0 bd0 k i ft v := by
  match ft with
  | 0 =>
    rcases v with x | r | x | o | x | x | x | x
    · obtain ⟨h1, h2⟩ := band (show (Bool.rec false (inb (bd0 (kd0 k) i).1 (bd0 (kd0 k) i).2 (sg x)) (Nat.ble (x + 1) 4294967296) : Bool) = true from h)
      exact ⟨x, rfl, Nat.le_of_ble_eq_true h1, inb_ok h2⟩
    all_goals cases h
  | 1 =>
    rcases v with x | r | x | o | x | x | x | x
    · cases h
    · cases h
    · exact ⟨x, rfl⟩
    all_goals cases h
  | f + 2 =>
    rcases v with x | r | x | o | x | x | x | x
    · cases h
    · obtain ⟨h1, h2⟩ := band (show (Bool.rec false (Bool.rec false (Nat.ble (r + 1) 466) (Nat.beq (kd0 r) f)) (Nat.beq (rt0 k i) r) : Bool) = true from h)
      obtain ⟨h3, h4⟩ := band h2
      have e := Nat.eq_of_beq_eq_true h1
      exact ⟨by rw [e], by rw [e]; exact Nat.eq_of_beq_eq_true h3, by rw [e]; exact Nat.le_of_ble_eq_true h4⟩
    all_goals cases h
noncomputable def fsOK (k : Nat) (fts : List Nat) : Nat → List AV → Bool := List.rec (motive := fun _ => Nat → List AV → Bool) (fun _ fs => match fs with | [] => true | _ => false) (fun ft _ ih i fs => match fs with | v :: fs => Bool.rec false (ih (i + 1) fs) (fOKb k i ft v) | [] => false) fts
theorem fsOK_ok {k : Nat} : ∀ {fts : List Nat} {i : Nat} {fs : List AV}, fsOK k fts i fs = true → fs.length = fts.length ∧ ∀ j ft, fts[j]? = some ft → fOK kd0 rt0 bd0 k (i + j) ft (nth fs j) := by
  intro fts
  induction fts with
  | nil =>
    intro i fs h
    cases fs with
    | nil => exact ⟨rfl, fun j ft hj => by simp at hj⟩
    | cons _ _ => cases h
  | cons ft fts ih =>
    intro i fs h
    cases fs with
    | nil => cases h
    | cons v fs =>
      obtain ⟨h1, h2⟩ := band (show (Bool.rec false (fsOK k fts (i + 1) fs) (fOKb k i ft v) : Bool) = true from h)
      obtain ⟨g1, g2⟩ := ih h2
      refine ⟨by rw [List.length_cons, List.length_cons, g1], fun j ft' hj => ?_⟩
      cases j with
      | zero =>
        cases (show some ft = some ft' from hj)
        exact fOKb_ok h1
      | succ j =>
        have h3 := g2 j ft' (by simpa using hj)
        rw [show i + (j + 1) = i + 1 + j by omega]
        exact h3
noncomputable def allD (f : Nat → Bool) (d : Nat) : Nat → Bool := Nat.rec (motive := fun _ => Nat → Bool) (fun lo => f lo) (fun d ih lo => Bool.rec false (ih (lo + 2 ^ d)) (ih lo)) d
theorem allD_ok {f : Nat → Bool} : ∀ {d lo : Nat}, allD f d lo = true → ∀ j, lo ≤ j → j < lo + 2 ^ d → f j = true := by
  intro d
  induction d with
  | zero =>
    intro lo h j h1 h2
    have h2 : j < lo + 1 := h2
    have e : j = lo := by omega
    rw [e]
    exact h
  | succ d ih =>
    intro lo h j h1 h2
    obtain ⟨g1, g2⟩ := band (show (Bool.rec false (allD f d (lo + 2 ^ d)) (allD f d lo) : Bool) = true from h)
    rw [Nat.pow_succ] at h2
    by_cases q : j < lo + 2 ^ d
    · exact ih g1 j h1 q
    · exact ih g2 j (by omega) (by omega)
noncomputable def rng1 (k N p j : Nat) : Bool := Bool.rec true (inb (bd0 (kd0 k) j).1 (bd0 (kd0 k) j).2 (sg (pget p j))) (Nat.ble (j + 1) N)
noncomputable def rngD (N : Nat) : Nat := Bool.rec (Bool.rec (Bool.rec 13 10 (Nat.ble N 1024)) 7 (Nat.ble N 128)) 4 (Nat.ble N 16)
noncomputable def rngOK (k N p : Nat) : Bool := Bool.rec false (allD (rng1 k N p) (rngD N) 0) (Nat.ble N (2 ^ rngD N))
theorem rngOK_ok {k N p : Nat} (h : rngOK k N p = true) : ∀ j : Nat, j < N → (bd0 (kd0 k) j).1 ≤ sg (pget p j) ∧ sg (pget p j) ≤ (bd0 (kd0 k) j).2 := by
  intro j hj
  obtain ⟨h1, h2⟩ := band (show (Bool.rec false (allD (rng1 k N p) (rngD N) 0) (Nat.ble N (2 ^ rngD N)) : Bool) = true from h)
  have h1 := Nat.le_of_ble_eq_true h1
  have h3 := allD_ok h2 j (Nat.zero_le _) (by omega)
  have h3 : (Bool.rec true (inb (bd0 (kd0 k) j).1 (bd0 (kd0 k) j).2 (sg (pget p j))) (Nat.ble (j + 1) N) : Bool) = true := h3
  rw [Nat.ble_eq_true_of_le (show j + 1 ≤ N from hj)] at h3
  exact inb_ok h3
noncomputable def cOKb (k : Nat) (c : Cel) : Bool := match sh0 (kd0 k) with
  | .inl q => (match c with | .inl p => Bool.rec false (fsOK k q.2 0 p.2) (Nat.beq p.1 q.1) | _ => false)
  | .inr (.inl q) => (match c with | .inr (.inl p) => (match p.2.2.2 with | [] => Bool.rec false (Bool.rec false (Bool.rec false (rngOK k q.2 p.2.2.1) (Nat.ble q.2 100000)) (Nat.beq p.2.1 q.2)) (Nat.beq p.1 q.1) | _ => false) | _ => false)
  | .inr (.inr (.inl q)) => (match c with | .inr (.inr (.inl p)) => Bool.rec false (fsOK k (List.replicate q.2.1 (q.2.2 + 2)) 0 p.2) (Nat.beq p.1 q.1) | _ => false)
  | .inr (.inr (.inr N)) => (match c with | .inr (.inr (.inr xs)) => fsOK k (List.replicate N 1) 0 xs | _ => false)
theorem cOKb_ok {k : Nat} {c : Cel} (h : cOKb k c = true) : cOK kd0 sh0 rt0 bd0 k c := by
  unfold cOKb at h
  unfold cOK
  generalize sh0 (kd0 k) = s9 at h ⊢
  rcases s9 with q | q | q | N
  · rcases c with p | p | p | p
    · obtain ⟨h1, h2⟩ := band (show (Bool.rec false (fsOK k q.2 0 p.2) (Nat.beq p.1 q.1) : Bool) = true from h)
      obtain ⟨g1, g2⟩ := fsOK_ok h2
      refine ⟨p.2, by rw [← Nat.eq_of_beq_eq_true h1], g1, fun i ft hi => ?_⟩
      have g3 := g2 i ft hi
      rwa [Nat.zero_add] at g3
    all_goals cases h
  · rcases c with p | p | p | p
    · cases h
    · obtain ⟨t, N, pp, ov⟩ := p
      cases ov with
      | cons _ _ => cases h
      | nil =>
        obtain ⟨h1, h⟩ := band (show (Bool.rec false (Bool.rec false (Bool.rec false (rngOK k q.2 pp) (Nat.ble q.2 100000)) (Nat.beq N q.2)) (Nat.beq t q.1) : Bool) = true from h)
        obtain ⟨h2, h⟩ := band h
        obtain ⟨h3, h4⟩ := band h
        exact ⟨pp, by rw [← Nat.eq_of_beq_eq_true h1, ← Nat.eq_of_beq_eq_true h2], Nat.le_of_ble_eq_true h3, rngOK_ok h4⟩
    all_goals cases h
  · rcases c with p | p | p | p
    · cases h
    · cases h
    · obtain ⟨h1, h2⟩ := band (show (Bool.rec false (fsOK k (List.replicate q.2.1 (q.2.2 + 2)) 0 p.2) (Nat.beq p.1 q.1) : Bool) = true from h)
      obtain ⟨g1, g2⟩ := fsOK_ok h2
      rw [List.length_replicate] at g1
      refine ⟨p.2, by rw [← Nat.eq_of_beq_eq_true h1], g1, fun j hj => ?_⟩
      have g3 := g2 j (q.2.2 + 2) (by rw [List.getElem?_replicate, if_pos hj])
      rw [Nat.zero_add] at g3
      exact g3
    · cases h
  · rcases c with p | p | p | p
    · cases h
    · cases h
    · cases h
    · obtain ⟨g1, g2⟩ := fsOK_ok (show fsOK k (List.replicate N 1) 0 p = true from h)
      rw [List.length_replicate] at g1
      refine ⟨p, rfl, g1, fun j hj => ?_⟩
      have g3 := g2 j 1 (by rw [List.getElem?_replicate, if_pos hj])
      exact g3
noncomputable def ti1 (k : Nat) : Bool := Bool.rec true (cOKb k (tget 9 M1 k)) (Nat.ble (k + 1) 466)
theorem ti1_ok : allD ti1 9 0 = true := by decide +kernel
theorem TI_1 : TI kd0 sh0 rt0 bd0 M1 := fun k hk => by
  have h := allD_ok ti1_ok k (Nat.zero_le _) (by rw [show (2 : Nat) ^ 9 = 512 from rfl]; omega)
  have h : (Bool.rec true (cOKb k (tget 9 M1 k)) (Nat.ble (k + 1) 466) : Bool) = true := h
  rw [Nat.ble_eq_true_of_le (show k + 1 ≤ 466 from hk)] at h
  exact cOKb_ok h
noncomputable def emp1 : Bool := allL rows9 (fun q => allN 12 (fun e => ieq (rdI M1 q.1 (q.2 + (36 + 15 * e))) 0))
theorem emp1_ok : emp1 = true := by decide +kernel
theorem z_7 : ieq (rdI M1 452 7) 0 = true := by decide +kernel
theorem z_4 : ieq (rdI M1 448 4) 0 = true := by decide +kernel
theorem z_25 : ieq (rdI M1 452 25) 0 = true := by decide +kernel
theorem z_5 : ieq (rdI M1 452 5) 0 = true := by decide +kernel
theorem Inv0_1 : Inv0 M1 := by
  refine ⟨fun q hq e he v hv h1 => ?_, ⟨fun h => ?_, fun i hi h => ?_, fun i hi h => ?_⟩, fun i hi h => ?_⟩
  · have h2 := ieq_iff.mp (allN_ok (allL_ok (show allL rows9 (fun q => allN 12 (fun e => ieq (rdI M1 q.1 (q.2 + (36 + 15 * e))) 0)) = true from emp1_ok) q hq) e he)
    rw [h2] at h1
    omega
  · rw [ieq_iff.mp z_7] at h; omega
  · rw [ieq_iff.mp z_4] at h; omega
  · rw [ieq_iff.mp z_25] at h; omega
  · rw [ieq_iff.mp z_5] at h; omega
noncomputable def gdb (i : Nat) (lo hi : Int) : Bool := inb lo hi (rdI M1 453 (0 + i))
theorem gdb_ok {i : Nat} {lo hi : Int} (h : gdb i lo hi = true) : lo ≤ rdI M1 453 (0 + i) ∧ rdI M1 453 (0 + i) ≤ hi := inb_ok h
theorem gd_3 : gdb 3 1 30 = true := by decide +kernel
theorem gd_4 : gdb 4 1 12 = true := by decide +kernel
theorem gd_0 : gdb 0 1 12 = true := by decide +kernel
theorem gd_1 : gdb 1 1 8 = true := by decide +kernel
theorem JI_1 : JI M1 := ⟨TI_1, Inv0_1, gdb_ok gd_3, gdb_ok gd_4, gdb_ok gd_0, gdb_ok gd_1⟩
theorem len_b : ieq (rdI M1 1 1) (rdI M1 452 16) = true := by decide +kernel
theorem lens_1 : rdI M1 1 1 = rdI M1 452 16 := ieq_iff.mp len_b
theorem len_0 : ieq (rdI M1 1 1) 0 = true := by decide +kernel
theorem RB_1 : RB M1 := by
  have h1 := rn_1 TI_1
  have h2 := rn_16 TI_1
  have e : rN M1 1 1 = rN M1 452 16 := sg_inj h1.2 h2.2 (by rw [← h1.1, ← h2.1]; exact lens_1)
  have z : rN M1 1 1 = 0 := sg_inj h1.2 (show 0 < 4294967296 by decide) (by rw [← h1.1, sgZ0]; exact ieq_iff.mp len_0)
  exact ⟨e, fun i hi => absurd hi (by rw [z]; exact Nat.not_lt_zero i)⟩
theorem z_07 : ieq (rdI M1 0 7) 0 = true := by decide +kernel
theorem z_1262 : ieq (rdI M1 126 2) 0 = true := by decide +kernel
theorem z_c0 : ieq (rdI M1 7 2) (rdI M1 453 0) = true := by decide +kernel
theorem z_c1 : ieq (rdI M1 7 3) (rdI M1 453 1) = true := by decide +kernel
noncomputable def z_e (j i : Nat) : Bool := Bool.rec true (ieq (rdI M1 (7 + 3 + j) i) (rdI M1 453 (29 + 15 * j + i))) (ile ((j : Int) + 1) (rdI M1 7 2))
noncomputable def z_v (j i : Nat) : Bool := Bool.rec true (ieq (rdI M1 (7 + 15 + 3 * j) i) (rdI M1 453 (209 + 17 * j + i))) (ile ((j : Int) + 1) (rdI M1 7 3))
theorem z_eE : allN 12 (fun j => allL [1, 3, 4] (z_e j)) = true := by decide +kernel
theorem z_vV : allN 8 (fun j => allL [1, 2] (z_v j)) = true := by decide +kernel
theorem z_e1 {j i : Nat} (hj : j < 12) (h : (j : Int) < rdI M1 7 2) (hi : i ∈ [1, 3, 4]) : rdI M1 (7 + 3 + j) i = rdI M1 453 (29 + 15 * j + i) := by
  have q : (Bool.rec true (ieq (rdI M1 (7 + 3 + j) i) (rdI M1 453 (29 + 15 * j + i))) (ile ((j : Int) + 1) (rdI M1 7 2)) : Bool) = true := allL_ok (allN_ok z_eE j hj) i hi
  rw [show ile ((j : Int) + 1) (rdI M1 7 2) = true from ile_iff.mpr h] at q
  exact ieq_iff.mp q
theorem z_v1 {j i : Nat} (hj : j < 8) (h : (j : Int) < rdI M1 7 3) (hi : i ∈ [1, 2]) : rdI M1 (7 + 15 + 3 * j) i = rdI M1 453 (209 + 17 * j + i) := by
  have q : (Bool.rec true (ieq (rdI M1 (7 + 15 + 3 * j) i) (rdI M1 453 (209 + 17 * j + i))) (ile ((j : Int) + 1) (rdI M1 7 3)) : Bool) = true := allL_ok (allN_ok z_vV j hj) i hi
  rw [show ile ((j : Int) + 1) (rdI M1 7 3) = true from ile_iff.mpr h] at q
  exact ieq_iff.mp q
theorem Eq_1 : EqS (vOf M1 7) (fun i => rdI M1 453 i) := ⟨ieq_iff.mp z_c0, ieq_iff.mp z_c1, fun j hj h9 => by
  obtain ⟨a, b, c, -⟩ := vOf_e M1 7 j hj
  exact ⟨a.trans ((z_e1 (i := 1) hj h9 (by decide)).trans (by rw [show 29 + 15 * j + 1 = 30 + 15 * j by omega])), b.trans ((z_e1 (i := 3) hj h9 (by decide)).trans (by rw [show 29 + 15 * j + 3 = 32 + 15 * j by omega])), c.trans ((z_e1 (i := 4) hj h9 (by decide)).trans (by rw [show 29 + 15 * j + 4 = 33 + 15 * j by omega]))⟩, fun j hj h9 => by
  obtain ⟨a, b, -⟩ := vOf_v M1 7 j hj
  exact ⟨a.trans ((z_v1 (i := 1) hj h9 (by decide)).trans (by rw [show 209 + 17 * j + 1 = 210 + 17 * j by omega])), b.trans ((z_v1 (i := 2) hj h9 (by decide)).trans (by rw [show 209 + 17 * j + 2 = 211 + 17 * j by omega]))⟩⟩
/-! the names at the start -/
noncomputable def nmb (a y : Nat) : Bool := Bool.rec false (Bool.rec false (Bool.rec false (Nat.beq y (pkr (nmr (fun k => rN M1 453 (a + 1 + k)) 0 (rN M1 453 a)))) (allN (rN M1 453 a) (fun k => Bool.rec false (Nat.ble (rN M1 453 (a + 1 + k)) 122) (Nat.ble 97 (rN M1 453 (a + 1 + k)))))) (Nat.ble (rN M1 453 a) 6)) (Nat.ble 1 (rN M1 453 a))
theorem nmb_ok {a y : Nat} (h : nmb a y = true) : y < 9223372036854775808 ∧ nmW (rN M1 453) a y := by
  obtain ⟨h1, h⟩ := band (show (Bool.rec false (Bool.rec false (Bool.rec false (Nat.beq y (pkr (nmr (fun k => rN M1 453 (a + 1 + k)) 0 (rN M1 453 a)))) (allN (rN M1 453 a) (fun k => Bool.rec false (Nat.ble (rN M1 453 (a + 1 + k)) 122) (Nat.ble 97 (rN M1 453 (a + 1 + k)))))) (Nat.ble (rN M1 453 a) 6)) (Nat.ble 1 (rN M1 453 a)) : Bool) = true from h)
  obtain ⟨h2, h⟩ := band h
  obtain ⟨h3, h4⟩ := band h
  have h1 := Nat.le_of_ble_eq_true h1
  have h2 := Nat.le_of_ble_eq_true h2
  have h4 := Nat.eq_of_beq_eq_true h4
  have hk : ∀ k, k < rN M1 453 a → 97 ≤ rN M1 453 (a + 1 + k) ∧ rN M1 453 (a + 1 + k) ≤ 122 := fun k hk => by
    obtain ⟨a1, a2⟩ := band (show (Bool.rec false (Nat.ble (rN M1 453 (a + 1 + k)) 122) (Nat.ble 97 (rN M1 453 (a + 1 + k))) : Bool) = true from allN_ok h3 k hk)
    exact ⟨Nat.le_of_ble_eq_true a1, Nat.le_of_ble_eq_true a2⟩
  refine ⟨?_, rN M1 453 a, fun k => rN M1 453 (a + 1 + k), h1, h2, rfl, fun k h => ⟨rfl, hk k h⟩, h4⟩
  rw [h4]
  exact nmr_lt (fun k h => by
    rw [Nat.zero_add]
    have := (hk k h).2
    omega) h2
noncomputable def znE (j : Nat) : Bool := Bool.rec true (nmb (23 + 15 * j) (rN M1 (7 + 3 + j) 0)) (ile ((j : Int) + 1) (rdI M1 7 2))
noncomputable def znV (j : Nat) : Bool := Bool.rec true (nmb (203 + 17 * j) (rN M1 (7 + 15 + 3 * j) 0)) (ile ((j : Int) + 1) (rdI M1 7 3))
theorem znE_ok : allN 12 znE = true := by decide +kernel
theorem znV_ok : allN 8 znV = true := by decide +kernel
theorem Nm_1 : NmS (vOf M1 7) (fun i => rdI M1 453 i) := by
  obtain ⟨q, hq⟩ := sa_453
  refine ⟨rN M1 453, fun i _ => rn_arr TI_1 (by decide) hq, fun j hj h9 => ?_, fun j hj h9 => ?_⟩
  · have z : (Bool.rec true (nmb (23 + 15 * j) (rN M1 (7 + 3 + j) 0)) (ile ((j : Int) + 1) (rdI M1 7 2)) : Bool) = true := allN_ok znE_ok j hj
    rw [show ile ((j : Int) + 1) (rdI M1 7 2) = true from ile_iff.mpr h9] at z
    obtain ⟨a, b⟩ := nmb_ok z
    exact ⟨_, a, (vOf_e M1 7 j hj).2.2.2.trans (rn5n TI_1 (by omega) ((kW_ok (show 7 ∈ W9 by decide)).2.1 j hj)), b⟩
  · have z : (Bool.rec true (nmb (203 + 17 * j) (rN M1 (7 + 15 + 3 * j) 0)) (ile ((j : Int) + 1) (rdI M1 7 3)) : Bool) = true := allN_ok znV_ok j hj
    rw [show ile ((j : Int) + 1) (rdI M1 7 3) = true from ile_iff.mpr h9] at z
    obtain ⟨a, b⟩ := nmb_ok z
    exact ⟨_, a, (vOf_v M1 7 j hj).2.2.trans (rn6n TI_1 (by omega) ((kW_ok (show 7 ∈ W9 by decide)).2.2 j hj)), b⟩
theorem RJ_1 : RJ M1 := by
  have a := ieq_iff.mp z_07
  have b := ieq_iff.mp z_7
  have c := ieq_iff.mp z_1262
  have d := ieq_iff.mp z_5
  refine ⟨RB_1, a.trans b.symm, vOf M1 7, vOf M1 7, fun i => rdI M1 453 i, fun i => rdI M1 453 i, ⟨StC_vOf M1 7, fun q => ?_, fun s hs q => (LvS_no c q).elim⟩, ⟨fun i hi hs => by rw [Nat.zero_add], fun q => ?_, fun n hn q => ?_⟩, ⟨Eq_1, Nm_1⟩, Eq_1, Nm_1⟩
  · rw [a] at q
    exact absurd q (by decide)
  · rw [b] at q
    exact absurd q (by decide)
  · rw [d] at q
    omega
theorem z_e13 : ieq (rdI M1 0 13) (rdI M1 452 22) = true := by decide +kernel
theorem z_e14 : ieq (rdI M1 0 14) (rdI M1 452 23) = true := by decide +kernel
theorem RZ_1 : RZ M1 := ⟨RJ_1, ieq_iff.mp z_e13, ieq_iff.mp z_e14⟩
