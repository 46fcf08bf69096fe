/-! the reference's undo, under the static numbers -/
theorem np_U : noP ctUndo = true := by decide +kernel
theorem sa_454 : ∃ q, sh0 (kd0 454) = .inr (.inl q) := ⟨_, rfl⟩
theorem undoJ_ok {Ev : Env9} {v u v' u' : Nat → Int} : ∀ k, 10 ≤ k → CtrOK kd0 sh0 rt0 bd0 (Inv1 v u v' u') Ev (runM k) 328 (ctUndo.1, ctUndo.2) := by
  refine ctr_view (D := 2) (b := 10) (as := [vR 452]) undo_ok (by decide) (fun vs g => ?_) ⟨⟨rfl, by decide⟩, trivial⟩ (wl_k (v := vR 452) trivial vwl_0) (fun M g => g.1) (fun M hT hI => ?_)
  · match vs, g with
    | [a], g => rw [show a = vR 452 from g.1.1]
  · obtain ⟨p8, pe⟩ := pastN hT
    obtain ⟨i0, iC, j1, j2, j3⟩ := hI
    have E7 : ∀ (g : Vw) M', TI kd0 sh0 rt0 bd0 M' → (∀ k, k < 466 → ∀ i, rN M' k i = g k i) → g 452 7 = rN M 452 7 → rdI M' 452 7 = rdI M 452 7 := fun g M' hT' hf e => by rw [(rnR hT' (Or.inr rfl)).1, (rnR hT (Or.inr rfl)).1, hf 452 (by decide) 7, e]
    by_cases h0 : rN M 452 5 = 0
    · refine ⟨_, _, _, v_undoR0 (D := 0) h0, fun M' hT' hI' hf hW => ⟨hI', JC_lo (noP_ok np_U hW) iC, ?_⟩⟩
      obtain ⟨-, pe'⟩ := pastN hT'
      rw [hf 452 (by decide) 5, vup_ne (f := rN M) (show (452 : Nat) ≠ 452 ∨ (5 : Nat) ≠ 6 from Or.inr (by decide)), h0] at pe'
      have K : ∀ k, k < 466 → k ≠ 452 → (∃ q, sh0 (kd0 k) = .inr (.inl q)) → ∀ i, rdI M' k i = rdI M k i := fun k hk h1 hs i => rw_eq hT hT' hk hk hs hs ((hf k hk i).trans (vup_ne (Or.inl h1)))
      refine ⟨fun i hi hs => (K 453 (by decide) (by decide) sa_453 _).trans (j1 i hi hs), fun q i hi hs => (K 454 (by decide) (by decide) sa_454 _).trans (j2 (by rw [← E7 _ M' hT' hf (vup_ne (Or.inr (by decide)))]; exact q) i hi hs), fun n hn q => ?_⟩
      rw [pe'] at q
      omega
    · obtain ⟨m, hm, h5⟩ : ∃ m, m < 8 ∧ rN M 452 5 = m + 1 := ⟨rN M 452 5 - 1, by omega, by omega⟩
      obtain ⟨g, e, a1, a2, a3⟩ := v_undoR (D := 0) hm h5
      refine ⟨_, _, g, e, fun M' hT' hI' hf hW => ⟨hI', JC_lo (noP_ok np_U hW) iC, ?_⟩⟩
      obtain ⟨-, pe'⟩ := pastN hT'
      rw [hf 452 (by decide) 5, a2] at pe'
      have K : ∀ k, k < 466 → k ≠ 453 → k ≠ 452 → (∃ q, sh0 (kd0 k) = .inr (.inl q)) → ∀ i, rdI M' k i = rdI M k i := fun k hk h1 h2 hs i => rw_eq hT hT' hk hk hs hs ((hf k hk i).trans (a3 k i h1 (Or.inl h2)))
      refine ⟨fun i hi hs => ?_, fun q i hi hs => (K 454 (by decide) (by decide) (by decide) sa_454 _).trans (j2 (by rw [← E7 _ M' hT' hf (a3 452 7 (by decide) (Or.inr ⟨by decide, by decide⟩))]; exact q) i hi hs), fun n hn q i hi hs => (K 457 (by decide) (by decide) (by decide) sa_457 _).trans (j3 n hn (by rw [pe, h5]; rw [pe'] at q; omega) i hi hs)⟩
      have := j3 m hm (by rw [pe, h5]; omega) i hi hs
      rw [← this, Nat.zero_add]
      exact rw_eq hT hT' (by decide) (by decide) sa_453 sa_457 ((hf 453 (by decide) i).trans (a1 i hi))
