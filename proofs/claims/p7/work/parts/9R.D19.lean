/-! the reference does its commands -/
def InvT (c : Nat) (M : Mem) : Prop := (InvE M ∧ (rdI M 452 7 = 1 → GoodR M 454 0) ∧ XCo M ∧ ∀ i : Nat, i < 8 → (i : Int) < rdI M 452 5 → GoodR M 457 (627 * i)) ∧ ∀ i : Nat, i < c → i < 30 → Rel9 (rdI M 463 (3 * i)) (rdI M 463 (3 * i + 1)) (rdI M 463 (3 * i + 2))
noncomputable def PRT (c : Nat) (κ : Nat) (v : Int) : Bool := Bool.rec (Bool.rec (PR0 κ v) (Bool.rec (PR0 κ v) false (ieq v 25)) (Nat.beq κ 13)) (Bool.rec false (ile 0 v) (ile (v + 1) ((3 * c : Nat) : Int))) (Nat.beq κ 41)
noncomputable def hgT (PR : Nat → Int → Bool) (c : Nat) : Bool := allL [hgE PR, hgG PR, PR (kd0 452) ((7 : Nat) : Int), PR (kd0 452) ((5 : Nat) : Int), PR (kd0 448) ((4 : Nat) : Int), allN 30 (fun i => allL [449, 450, 451] (fun k => PR (kd0 k) (i : Int))), allN (3 * c) (fun i => PR (kd0 463) (i : Int))] (fun b => b)
theorem hang_TT {PR : Nat → Int → Bool} {c : Nat} (h : hgT PR c = true) : Hang kd0 PR (InvT c) := by
  intro M M' hh hf
  have g1 := allL_ok h (hgE PR) List.mem_cons_self
  have g2 := allL_ok h (hgG PR) (List.mem_cons_of_mem _ List.mem_cons_self)
  have g3 := allL_ok h (PR (kd0 452) ((7 : Nat) : Int)) (List.mem_cons_of_mem _ (List.mem_cons_of_mem _ List.mem_cons_self))
  have g4 := allL_ok h (PR (kd0 452) ((5 : Nat) : Int)) (List.mem_cons_of_mem _ (List.mem_cons_of_mem _ (List.mem_cons_of_mem _ List.mem_cons_self)))
  have g5 := allL_ok h (PR (kd0 448) ((4 : Nat) : Int)) (List.mem_cons_of_mem _ (List.mem_cons_of_mem _ (List.mem_cons_of_mem _ (List.mem_cons_of_mem _ List.mem_cons_self))))
  have g6 := allL_ok h (allN 30 (fun i => allL [449, 450, 451] (fun k => PR (kd0 k) (i : Int)))) (List.mem_cons_of_mem _ (List.mem_cons_of_mem _ (List.mem_cons_of_mem _ (List.mem_cons_of_mem _ (List.mem_cons_of_mem _ List.mem_cons_self)))))
  have g7 := allL_ok h (allN (3 * c) (fun i => PR (kd0 463) (i : Int))) (List.mem_cons_of_mem _ (List.mem_cons_of_mem _ (List.mem_cons_of_mem _ (List.mem_cons_of_mem _ (List.mem_cons_of_mem _ (List.mem_cons_of_mem _ List.mem_cons_self))))))
  obtain ⟨⟨h1, h2, h3, h4⟩, h5⟩ := hh
  have x2 : allL [3, 4, 0, 1] (fun j => PR (kd0 454) ((0 + j : Nat) : Int)) = true := hgG_s g2
  refine ⟨⟨hang_E g1 hf h1, fun hs => ?_, XC_eq (fun k i hk hi => ?_) h3, fun i hi h9 => ?_⟩, fun i hi hi30 => ?_⟩
  · rw [hf 452 (by omega) 7 g3] at hs
    exact good_fr (by omega) x2 hf (h2 hs)
  · rcases hk with ⟨e1, e2⟩ | e | e | e
    · rw [e1, e2]; exact hf 448 (by omega) 4 g5
    · rw [e]; exact hf 449 (by omega) i (allL_ok (allN_ok g6 i hi) 449 (by decide))
    · rw [e]; exact hf 450 (by omega) i (allL_ok (allN_ok g6 i hi) 450 (by decide))
    · rw [e]; exact hf 451 (by omega) i (allL_ok (allN_ok g6 i hi) 451 (by decide))
  · rw [hf 452 (by omega) 5 g4] at h9
    exact hang_P g2 hf hi (h4 i hi h9)
  · rw [hf 463 (by omega) (3 * i) (allN_ok g7 (3 * i) (by omega)), hf 463 (by omega) (3 * i + 1) (allN_ok g7 (3 * i + 1) (by omega)), hf 463 (by omega) (3 * i + 2) (allN_ok g7 (3 * i + 2) (by omega))]
    exact h5 i hi hi30
theorem hgT_a : allN 31 (fun c => hgT (PRT c) c) = true := by decide +kernel
theorem hgT_0 : allN 31 (fun c => hgT PR0 c) = true := by decide +kernel
theorem InvT_of {c : Nat} {M : Mem} (hc : (c : Int) ≤ rdI M 452 25) (h : Inv0 M) : InvT c M := ⟨⟨h.1, h.2.1.1, h.2.1.2.1, h.2.2⟩, fun i h1 h2 => h.2.1.2.2 i h2 (by omega)⟩
theorem InvT_to {c : Nat} {M : Mem} (hc : rdI M 452 25 ≤ (c : Int)) (h : InvT c M) : Inv0 M := ⟨h.1.1, ⟨h.1.2.1, h.1.2.2.1, fun i h1 h2 => h.2 i (by omega) h1⟩, h.1.2.2.2⟩
noncomputable def relT (c : Nat) (q : Int × (Int × Int) × (Int × Int)) : List Fct := [f8 463 (3 * c) q.1 q.1, f8 463 (3 * c + 1) q.2.1.1 q.2.1.2, f8 463 (3 * c + 2) q.2.2.1 q.2.2.2]
theorem relT_ok {c : Nat} {q : Int × (Int × Int) × (Int × Int)} (hq : q ∈ relL) {M : Mem} (h : PrFa kd0 [] (relT c q) M) : Rel9 (rdI M 463 (3 * c)) (rdI M 463 (3 * c + 1)) (rdI M 463 (3 * c + 2)) := by
  have h1 := fact_at h (c := 463) (i := 3 * c) (lo := q.1) (hi := q.1) List.mem_cons_self
  have h2 := fact_at h (c := 463) (i := 3 * c + 1) (lo := q.2.1.1) (hi := q.2.1.2) (List.mem_cons_of_mem _ List.mem_cons_self)
  have h3 := fact_at h (c := 463) (i := 3 * c + 2) (lo := q.2.2.1) (hi := q.2.2.2) (List.mem_cons_of_mem _ (List.mem_cons_of_mem _ List.mem_cons_self))
  exact ⟨q, hq, Int.le_antisymm h1.2 h1.1, h2, h3⟩
theorem relT_of {c : Nat} {M : Mem} (h : Rel9 (rdI M 463 (3 * c)) (rdI M 463 (3 * c + 1)) (rdI M 463 (3 * c + 2))) : ∃ q ∈ relL, PrFa kd0 [] (relT c q) M := by
  obtain ⟨q, h1, h2, h3, h4⟩ := h
  exact ⟨q, h1, prFa_app (l := [f8 463 (3 * c) q.1 q.1]) (prFa_1 (c := 463) (i := 3 * c) (by omega) (Int.le_of_eq h2.symm) (Int.le_of_eq h2)) (prFa_app (l := [f8 463 (3 * c + 1) q.2.1.1 q.2.1.2]) (prFa_1 (c := 463) (i := 3 * c + 1) (by omega) h3.1 h3.2) (prFa_1 (c := 463) (i := 3 * c + 2) (by omega) h4.1 h4.2))⟩
noncomputable def mdZ : MDT := (2, nb_X11_executeCommands, [])
noncomputable def wZ1 : Wrg := [(13, 6, 6), (13, 16, 25), (41, 0, 89)]
noncomputable def wZ : Wrg := (13, 5, 6) :: (13, 12, 14) :: (13, 16, 25) :: (41, 0, 89) :: (36, 0, 15) :: (37, 0, 23) :: (38, 0, 7) :: (39, 0, 95) :: (31, 0, 626) :: wKp
noncomputable def pZ : List Pst := [((0, 0), (0, -2147483648, 2147483647), fM 16 0 0 :: gdR 453 0, [])]
noncomputable def ctZ : Ctr := ([(1, 452, 0)], gdR 453 0, [], wZ, pZ)
noncomputable def sZ (f : List Fct) : SPt := ([some (1, 452, 0), none], f ++ gdR 453 0, [])
noncomputable def sZ1 (c : Nat) : SPt := sZ [fM 25 c c, fM 20 0 0, fM 17 0 900]
noncomputable def lZ1 (c : Nat) : List SPt := sZ [fM 25 c c, fM 20 1 4] :: yif (Nat.blt c 30) (relL.map (fun q => sZ (fM 25 ((c : Int) + 1) ((c : Int) + 1) :: fM 20 0 0 :: fM 17 0 900 :: relT c q)) ++ relL.map (fun q => sZ (fM 25 ((c : Int) + 1) ((c : Int) + 1) :: fM 20 1 4 :: relT c q)))
noncomputable def chZ1 (c : Nat) : Bool := xseg kd0 sh0 rt0 bd0 un0 (inW wZ1) (PRT c) MT0 (ctL tl_reads) 8 mdZ [(1, lZ1 c), (6, [sZ [fM 25 c c, fM 16 0 0]])] [] 10000000 1 (sZ1 c)
theorem chZe : xseg kd0 sh0 rt0 bd0 un0 (inW wZ1) PR0 MT0 CT9 4 mdZ [] pZ 10000000 1 (sZ [fM 20 1 4]) = true := by decide +kernel
theorem chZ0 : xseg kd0 sh0 rt0 bd0 un0 (inW wZ1) (PRT 0) MT0 CT9 4 mdZ [(1, [sZ1 0])] [] 10000000 0 (spI 2 ctZ.1, gdR 453 0, []) = true := by decide +kernel
noncomputable def sZ7 (j : Nat) (f : List Fct) : SPt := ([some (1, 452, 0), some (0, (j : Int), (j : Int))], f ++ (fM 16 0 0 :: gdR 453 0), [])
theorem chZ6 : xseg kd0 sh0 rt0 bd0 un0 (inW wZ) PR0 MT0 (ctL [(258, ctKp 453)]) 0 mdZ [(7, [sZ7 0 []])] [] 10000000 6 (sZ [fM 16 0 0]) = true := by decide +kernel
noncomputable def clZ : List (Nat × Ctr) := [(214, ct_199), (215, ct_223), (208, ct_190), (218, ct_204), (193, ct_174), (220, ct_228)]
noncomputable def chZ7 (j : Nat) : Bool := Bool.rec false (allL relL (fun q => xseg kd0 sh0 rt0 bd0 un0 (inW wZ) PR0 MT0 (ctL clZ) 8 mdZ [(7, [sZ7 (j + 1) []])] pZ 10000000 7 (sZ7 j (fM 25 ((j : Int) + 1) 30 :: relT j q)))) (xseg kd0 sh0 rt0 bd0 un0 (inW wZ) PR0 MT0 CT9 0 mdZ [] pZ 10000000 7 (sZ7 j [fM 25 0 j]))
theorem chZ7_all : allN 30 chZ7 = true := by decide +kernel
theorem chZ7_30 : xseg kd0 sh0 rt0 bd0 un0 (inW wZ) PR0 MT0 CT9 0 mdZ [] pZ 10000000 7 (sZ7 30 [fM 25 0 30]) = true := by decide +kernel
theorem chZ1_0 : chZ1 0 = true := by decide +kernel
theorem chZ1_1 : chZ1 1 = true := by decide +kernel
theorem chZ1_2 : chZ1 2 = true := by decide +kernel
theorem chZ1_3 : chZ1 3 = true := by decide +kernel
theorem chZ1_4 : chZ1 4 = true := by decide +kernel
theorem chZ1_5 : chZ1 5 = true := by decide +kernel
theorem chZ1_6 : chZ1 6 = true := by decide +kernel
theorem chZ1_7 : chZ1 7 = true := by decide +kernel
theorem chZ1_8 : chZ1 8 = true := by decide +kernel
theorem chZ1_9 : chZ1 9 = true := by decide +kernel
theorem chZ1_10 : chZ1 10 = true := by decide +kernel
theorem chZ1_11 : chZ1 11 = true := by decide +kernel
theorem chZ1_12 : chZ1 12 = true := by decide +kernel
theorem chZ1_13 : chZ1 13 = true := by decide +kernel
theorem chZ1_14 : chZ1 14 = true := by decide +kernel
theorem chZ1_15 : chZ1 15 = true := by decide +kernel
theorem chZ1_16 : chZ1 16 = true := by decide +kernel
theorem chZ1_17 : chZ1 17 = true := by decide +kernel
theorem chZ1_18 : chZ1 18 = true := by decide +kernel
theorem chZ1_19 : chZ1 19 = true := by decide +kernel
theorem chZ1_20 : chZ1 20 = true := by decide +kernel
theorem chZ1_21 : chZ1 21 = true := by decide +kernel
theorem chZ1_22 : chZ1 22 = true := by decide +kernel
theorem chZ1_23 : chZ1 23 = true := by decide +kernel
theorem chZ1_24 : chZ1 24 = true := by decide +kernel
theorem chZ1_25 : chZ1 25 = true := by decide +kernel
theorem chZ1_26 : chZ1 26 = true := by decide +kernel
theorem chZ1_27 : chZ1 27 = true := by decide +kernel
theorem chZ1_28 : chZ1 28 = true := by decide +kernel
theorem chZ1_29 : chZ1 29 = true := by decide +kernel
theorem chZ1_30 : chZ1 30 = true := by decide +kernel
