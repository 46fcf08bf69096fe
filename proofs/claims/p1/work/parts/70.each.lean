/-! every case of the switch -/
theorem cb_36a : ca2 c1 36 [(0, 2147483647), (2147483648 + 3, 4294967295)] iv0 = true := by decide +kernel
theorem cb_36b : ca2 c1 36 [(2147483648, 2147483647 + 3)] [(0, 2147483647), (2147483648 + 4, 4294967295)] = true := by decide +kernel
theorem ea_0 {l : Launch} {D : va_G} {G : Gam} {A : Nat → Prop} (hst : l.stackTraces = false) (h6 : G.1 6 = G.1 1 - G.1 1 / 3 * 3) : Each l D G A 0 :=
  each0 (runM_ok hst 20) h6 ca_0
theorem ea_1 {l : Launch} {D : va_G} {G : Gam} {A : Nat → Prop} (hst : l.stackTraces = false) (h6 : G.1 6 = G.1 1 - G.1 1 / 3 * 3) : Each l D G A 1 :=
  each0 (c1_ok hst) h6 cb_1
theorem ea_2 {l : Launch} {D : va_G} {G : Gam} {A : Nat → Prop} (hst : l.stackTraces = false) (h6 : G.1 6 = G.1 1 - G.1 1 / 3 * 3) : Each l D G A 2 :=
  each0 (runM_ok hst 20) h6 ca_2
theorem ea_3 {l : Launch} {D : va_G} {G : Gam} {A : Nat → Prop} (hst : l.stackTraces = false) (h6 : G.1 6 = G.1 1 - G.1 1 / 3 * 3) : Each l D G A 3 :=
  each0 (runM_ok hst 20) h6 ca_3
theorem ea_4 {l : Launch} {D : va_G} {G : Gam} {A : Nat → Prop} (hst : l.stackTraces = false) (h6 : G.1 6 = G.1 1 - G.1 1 / 3 * 3) : Each l D G A 4 :=
  each0 (runM_ok hst 20) h6 ca_4
theorem ea_5 {l : Launch} {D : va_G} {G : Gam} {A : Nat → Prop} (hst : l.stackTraces = false) (h6 : G.1 6 = G.1 1 - G.1 1 / 3 * 3) : Each l D G A 5 :=
  each0 (runM_ok hst 20) h6 ca_5
theorem ea_6 {l : Launch} {D : va_G} {G : Gam} {A : Nat → Prop} (hst : l.stackTraces = false) (h6 : G.1 6 = G.1 1 - G.1 1 / 3 * 3) : Each l D G A 6 :=
  each0 (runM_ok hst 20) h6 ca_6
theorem ea_7 {l : Launch} {D : va_G} {G : Gam} {A : Nat → Prop} (hst : l.stackTraces = false) (h6 : G.1 6 = G.1 1 - G.1 1 / 3 * 3) : Each l D G A 7 :=
  each0 (runM_ok hst 20) h6 ca_7
theorem ea_8 {l : Launch} {D : va_G} {G : Gam} {A : Nat → Prop} (hst : l.stackTraces = false) (h6 : G.1 6 = G.1 1 - G.1 1 / 3 * 3) : Each l D G A 8 :=
  each0 (runM_ok hst 20) h6 ca_8
theorem ea_9 {l : Launch} {D : va_G} {G : Gam} {A : Nat → Prop} (hst : l.stackTraces = false) (h6 : G.1 6 = G.1 1 - G.1 1 / 3 * 3) : Each l D G A 9 :=
  each0 (runM_ok hst 20) h6 ca_9
theorem ea_10 {l : Launch} {D : va_G} {G : Gam} {A : Nat → Prop} (hst : l.stackTraces = false) (h6 : G.1 6 = G.1 1 - G.1 1 / 3 * 3) : Each l D G A 10 :=
  eachG (cF9_ok hst) h6 cb_10a cb_10
theorem ea_11 {l : Launch} {D : va_G} {G : Gam} {A : Nat → Prop} (hst : l.stackTraces = false) (h6 : G.1 6 = G.1 1 - G.1 1 / 3 * 3) : Each l D G A 11 :=
  each0 (runM_ok hst 20) h6 ca_11
theorem ea_12 {l : Launch} {D : va_G} {G : Gam} {A : Nat → Prop} (hst : l.stackTraces = false) (h6 : G.1 6 = G.1 1 - G.1 1 / 3 * 3) : Each l D G A 12 :=
  each0 (runM_ok hst 20) h6 ca_12
theorem ea_13 {l : Launch} {D : va_G} {G : Gam} {A : Nat → Prop} (hst : l.stackTraces = false) (h6 : G.1 6 = G.1 1 - G.1 1 / 3 * 3) : Each l D G A 13 :=
  each2 (c1_ok hst) h6 (l1 := iv4) (l2 := iv0) chn4 chn0 cb_13
theorem ea_14 {l : Launch} {D : va_G} {G : Gam} {A : Nat → Prop} (hst : l.stackTraces = false) (h6 : G.1 6 = G.1 1 - G.1 1 / 3 * 3) : Each l D G A 14 :=
  each2 (c1_ok hst) h6 (l1 := iv4) (l2 := iv0) chn4 chn0 cb_14
theorem ea_15 {l : Launch} {D : va_G} {G : Gam} {A : Nat → Prop} (hst : l.stackTraces = false) (h6 : G.1 6 = G.1 1 - G.1 1 / 3 * 3) : Each l D G A 15 :=
  each2 (c1_ok hst) h6 (l1 := iv4) (l2 := iv0) chn4 chn0 cb_15
theorem ea_16 {l : Launch} {D : va_G} {G : Gam} {A : Nat → Prop} (hst : l.stackTraces = false) (h6 : G.1 6 = G.1 1 - G.1 1 / 3 * 3) : Each l D G A 16 :=
  each2 (c1_ok hst) h6 (l1 := iv4) (l2 := iv0) chn4 chn0 cb_16
theorem ea_17 {l : Launch} {D : va_G} {G : Gam} {A : Nat → Prop} (hst : l.stackTraces = false) (h6 : G.1 6 = G.1 1 - G.1 1 / 3 * 3) : Each l D G A 17 :=
  each2 (c1_ok hst) h6 (l1 := iv4) (l2 := iv0) chn4 chn0 cb_17
theorem ea_18 {l : Launch} {D : va_G} {G : Gam} {A : Nat → Prop} (hst : l.stackTraces = false) (h6 : G.1 6 = G.1 1 - G.1 1 / 3 * 3) : Each l D G A 18 :=
  each2 (c1_ok hst) h6 (l1 := iv4) (l2 := iv0) chn4 chn0 cb_18
theorem ea_19 {l : Launch} {D : va_G} {G : Gam} {A : Nat → Prop} (hst : l.stackTraces = false) (h6 : G.1 6 = G.1 1 - G.1 1 / 3 * 3) : Each l D G A 19 :=
  each2 (c1_ok hst) h6 (l1 := iv4) (l2 := iv0) chn4 chn0 cb_19
theorem ea_20 {l : Launch} {D : va_G} {G : Gam} {A : Nat → Prop} (hst : l.stackTraces = false) (h6 : G.1 6 = G.1 1 - G.1 1 / 3 * 3) : Each l D G A 20 :=
  each2 (c1_ok hst) h6 (l1 := iv4) (l2 := iv0) chn4 chn0 cb_20
theorem ea_21 {l : Launch} {D : va_G} {G : Gam} {A : Nat → Prop} (hst : l.stackTraces = false) (h6 : G.1 6 = G.1 1 - G.1 1 / 3 * 3) : Each l D G A 21 :=
  each2 (c1_ok hst) h6 (l1 := iv4) (l2 := iv0) chn4 chn0 cb_21
theorem ea_22 {l : Launch} {D : va_G} {G : Gam} {A : Nat → Prop} (hst : l.stackTraces = false) (h6 : G.1 6 = G.1 1 - G.1 1 / 3 * 3) : Each l D G A 22 :=
  each2 (c1_ok hst) h6 (l1 := iv4) (l2 := iv0) chn4 chn0 cb_22
theorem ea_23 {l : Launch} {D : va_G} {G : Gam} {A : Nat → Prop} (hst : l.stackTraces = false) (h6 : G.1 6 = G.1 1 - G.1 1 / 3 * 3) : Each l D G A 23 :=
  each2 (c1_ok hst) h6 (l1 := iv4) (l2 := iv0) chn4 chn0 cb_23
theorem ea_24 {l : Launch} {D : va_G} {G : Gam} {A : Nat → Prop} (hst : l.stackTraces = false) (h6 : G.1 6 = G.1 1 - G.1 1 / 3 * 3) : Each l D G A 24 :=
  each2 (c1_ok hst) h6 (l1 := iv4) (l2 := iv0) chn4 chn0 cb_24
theorem ea_25 {l : Launch} {D : va_G} {G : Gam} {A : Nat → Prop} (hst : l.stackTraces = false) (h6 : G.1 6 = G.1 1 - G.1 1 / 3 * 3) : Each l D G A 25 :=
  each2 (c1_ok hst) h6 (l1 := iv4) (l2 := iv4) chn4 chn4 cb_25
theorem ea_26 {l : Launch} {D : va_G} {G : Gam} {A : Nat → Prop} (hst : l.stackTraces = false) (h6 : G.1 6 = G.1 1 - G.1 1 / 3 * 3) : Each l D G A 26 :=
  each2 (c1_ok hst) h6 (l1 := iv4) (l2 := iv4) chn4 chn4 cb_26
theorem ea_27 {l : Launch} {D : va_G} {G : Gam} {A : Nat → Prop} (hst : l.stackTraces = false) (h6 : G.1 6 = G.1 1 - G.1 1 / 3 * 3) : Each l D G A 27 :=
  each2 (c1_ok hst) h6 (l1 := iv4) (l2 := iv4) chn4 chn4 cb_27
theorem ea_28 {l : Launch} {D : va_G} {G : Gam} {A : Nat → Prop} (hst : l.stackTraces = false) (h6 : G.1 6 = G.1 1 - G.1 1 / 3 * 3) : Each l D G A 28 :=
  each2 (c1_ok hst) h6 (l1 := iv4) (l2 := iv4) chn4 chn4 cb_28
theorem ea_29 {l : Launch} {D : va_G} {G : Gam} {A : Nat → Prop} (hst : l.stackTraces = false) (h6 : G.1 6 = G.1 1 - G.1 1 / 3 * 3) : Each l D G A 29 :=
  each2 (c1_ok hst) h6 (l1 := iv4) (l2 := iv4) chn4 chn4 cb_29
theorem ea_30 {l : Launch} {D : va_G} {G : Gam} {A : Nat → Prop} (hst : l.stackTraces = false) (h6 : G.1 6 = G.1 1 - G.1 1 / 3 * 3) : Each l D G A 30 :=
  each2 (c1_ok hst) h6 (l1 := iv4) (l2 := iv4) chn4 chn4 cb_30
theorem ea_31 {l : Launch} {D : va_G} {G : Gam} {A : Nat → Prop} (hst : l.stackTraces = false) (h6 : G.1 6 = G.1 1 - G.1 1 / 3 * 3) : Each l D G A 31 :=
  each0 (runM_ok hst 20) h6 ca_31
theorem ea_32 {l : Launch} {D : va_G} {G : Gam} {A : Nat → Prop} (hst : l.stackTraces = false) (h6 : G.1 6 = G.1 1 - G.1 1 / 3 * 3) : Each l D G A 32 :=
  each2 (c1_ok hst) h6 (l1 := iv4) (l2 := iv0) chn4 chn0 cb_32
theorem ea_33 {l : Launch} {D : va_G} {G : Gam} {A : Nat → Prop} (hst : l.stackTraces = false) (h6 : G.1 6 = G.1 1 - G.1 1 / 3 * 3) : Each l D G A 33 :=
  each8 (cS_ok hst) h6 (na := 4) (nb := 121) (by decide) (by decide) cb_33a cb_33b rfl (by decide +kernel) cb_33
theorem ea_34 {l : Launch} {D : va_G} {G : Gam} {A : Nat → Prop} (hst : l.stackTraces = false) (h6 : G.1 6 = G.1 1 - G.1 1 / 3 * 3) : Each l D G A 34 :=
  each8 (cS_ok hst) h6 (na := 3) (nb := 121) (by decide) (by decide) cb_34a cb_34b rfl (by decide +kernel) cb_34
theorem ea_35 {l : Launch} {D : va_G} {G : Gam} {A : Nat → Prop} (hst : l.stackTraces = false) (h6 : G.1 6 = G.1 1 - G.1 1 / 3 * 3) : Each l D G A 35 :=
  each9 (cD_ok hst) h6 (lo := 0) (na := 4) (by decide) (by decide) cb_35a (by decide +kernel) cb_35
theorem ea_36 {l : Launch} {D : va_G} {G : Gam} {A : Nat → Prop} (hst : l.stackTraces = false) (h6 : G.1 6 = G.1 1 - G.1 1 / 3 * 3) : Each l D G A 36 :=
  each8g (fun _ => c1_ok hst) h6 (na := 3) (nb := 4) (by decide) (by decide) cb_36a cb_36b (fun k hk => by
    rcases k with _ | _ | _ | k
    · exact ⟨cL_0, fun _ => layN_ok hst (leaS_0_ok hst) 20, fun d hd => row8_get cb_36_0 d hd⟩
    · exact ⟨cL_1, fun _ => layN_ok hst (leaS_1_ok hst) 20, fun d hd => row8_get cb_36_1 d hd⟩
    · exact ⟨cL_2, fun _ => layN_ok hst (leaS_2_ok hst) 20, fun d hd => row8_get cb_36_2 d hd⟩
    · omega)
theorem ea_37 {l : Launch} {D : va_G} {G : Gam} {A : Nat → Prop} (hst : l.stackTraces = false) (h6 : G.1 6 = G.1 1 - G.1 1 / 3 * 3) : Each l D G A 37 :=
  each2 (c1_ok hst) h6 (l1 := iv4) (l2 := iv0) chn4 chn0 cb_37
theorem ea_38 {l : Launch} {D : va_G} {G : Gam} {A : Nat → Prop} (hst : l.stackTraces = false) (h6 : G.1 6 = G.1 1 - G.1 1 / 3 * 3) : Each l D G A 38 :=
  each0 (runM_ok hst 20) h6 ca_38
theorem ea_39 {l : Launch} {D : va_G} {G : Gam} {A : Nat → Prop} (hst : l.stackTraces = false) (h6 : G.1 6 = G.1 1 - G.1 1 / 3 * 3) : Each l D G A 39 :=
  each2 (c1_ok hst) h6 (l1 := iv4) (l2 := iv4) chn4 chn4 cb_39
theorem ea_40 {l : Launch} {D : va_G} {G : Gam} {A : Nat → Prop} (hst : l.stackTraces = false) (h6 : G.1 6 = G.1 1 - G.1 1 / 3 * 3) : Each l D G A 40 :=
  each0 (runM_ok hst 20) h6 ca_40
theorem ea_41 {l : Launch} {D : va_G} {G : Gam} {A : Nat → Prop} (hst : l.stackTraces = false) (h6 : G.1 6 = G.1 1 - G.1 1 / 3 * 3) : Each l D G A 41 :=
  each0 (runM_ok hst 20) h6 ca_41
theorem ea_42 {l : Launch} {D : va_G} {G : Gam} {A : Nat → Prop} (hst : l.stackTraces = false) (h6 : G.1 6 = G.1 1 - G.1 1 / 3 * 3) : Each l D G A 42 :=
  each2 (c1_ok hst) h6 (l1 := iv4) (l2 := iv0) chn4 chn0 cb_42
theorem ea_43 {l : Launch} {D : va_G} {G : Gam} {A : Nat → Prop} (hst : l.stackTraces = false) (h6 : G.1 6 = G.1 1 - G.1 1 / 3 * 3) : Each l D G A 43 :=
  each2 (c1_ok hst) h6 (l1 := iv4) (l2 := iv0) chn4 chn0 cb_43
theorem ea_44 {l : Launch} {D : va_G} {G : Gam} {A : Nat → Prop} (hst : l.stackTraces = false) (h6 : G.1 6 = G.1 1 - G.1 1 / 3 * 3) : Each l D G A 44 :=
  each2 (c1_ok hst) h6 (l1 := iv4) (l2 := iv0) chn4 chn0 cb_44
theorem ea_45 {l : Launch} {D : va_G} {G : Gam} {A : Nat → Prop} (hst : l.stackTraces = false) (h6 : G.1 6 = G.1 1 - G.1 1 / 3 * 3) : Each l D G A 45 :=
  each0 (runM_ok hst 20) h6 ca_45
theorem ea_46 {l : Launch} {D : va_G} {G : Gam} {A : Nat → Prop} (hst : l.stackTraces = false) (h6 : G.1 6 = G.1 1 - G.1 1 / 3 * 3) : Each l D G A 46 :=
  each0 (runM_ok hst 20) h6 ca_46
theorem ea_47 {l : Launch} {D : va_G} {G : Gam} {A : Nat → Prop} (hst : l.stackTraces = false) (h6 : G.1 6 = G.1 1 - G.1 1 / 3 * 3) : Each l D G A 47 :=
  each0 (runM_ok hst 20) h6 ca_47
theorem ea_48 {l : Launch} {D : va_G} {G : Gam} {A : Nat → Prop} (hst : l.stackTraces = false) (h6 : G.1 6 = G.1 1 - G.1 1 / 3 * 3) : Each l D G A 48 :=
  each0 (runM_ok hst 20) h6 ca_48
theorem ea_49 {l : Launch} {D : va_G} {G : Gam} {A : Nat → Prop} (hst : l.stackTraces = false) (h6 : G.1 6 = G.1 1 - G.1 1 / 3 * 3) : Each l D G A 49 :=
  each0 (c1_ok hst) h6 cb_49
theorem ea_50 {l : Launch} {D : va_G} {G : Gam} {A : Nat → Prop} (hst : l.stackTraces = false) (h6 : G.1 6 = G.1 1 - G.1 1 / 3 * 3) : Each l D G A 50 :=
  each9 (cP_ok hst) h6 (lo := 1) (na := 60) (by decide) (by decide) cb_50a (by decide +kernel) cb_50
theorem ea_51 {l : Launch} {D : va_G} {G : Gam} {A : Nat → Prop} (hst : l.stackTraces = false) (h6 : G.1 6 = G.1 1 - G.1 1 / 3 * 3) : Each l D G A 51 :=
  each0 (c1_ok hst) h6 cb_51
theorem ea_52 {l : Launch} {D : va_G} {G : Gam} {A : Nat → Prop} (hst : l.stackTraces = false) (h6 : G.1 6 = G.1 1 - G.1 1 / 3 * 3) : Each l D G A 52 :=
  each2 (c1_ok hst) h6 (l1 := iv4) (l2 := iv4) chn4 chn4 cb_52
theorem ea_53 {l : Launch} {D : va_G} {G : Gam} {A : Nat → Prop} (hst : l.stackTraces = false) (h6 : G.1 6 = G.1 1 - G.1 1 / 3 * 3) : Each l D G A 53 :=
  each2 (c1_ok hst) h6 (l1 := iv4) (l2 := iv0) chn4 chn0 cb_53
theorem ea_54 {l : Launch} {D : va_G} {G : Gam} {A : Nat → Prop} (hst : l.stackTraces = false) (h6 : G.1 6 = G.1 1 - G.1 1 / 3 * 3) : Each l D G A 54 :=
  each2 (c1_ok hst) h6 (l1 := iv4) (l2 := iv0) chn4 chn0 cb_54
theorem ea_55 {l : Launch} {D : va_G} {G : Gam} {A : Nat → Prop} (hst : l.stackTraces = false) (h6 : G.1 6 = G.1 1 - G.1 1 / 3 * 3) : Each l D G A 55 :=
  each2 (c1_ok hst) h6 (l1 := iv4) (l2 := ivF) chn4 chnF cb_55
theorem ea_56 {l : Launch} {D : va_G} {G : Gam} {A : Nat → Prop} (hst : l.stackTraces = false) (h6 : G.1 6 = G.1 1 - G.1 1 / 3 * 3) : Each l D G A 56 :=
  each2 (c1_ok hst) h6 (l1 := iv4) (l2 := iv0) chn4 chn0 cb_56
theorem ea_57 {l : Launch} {D : va_G} {G : Gam} {A : Nat → Prop} (hst : l.stackTraces = false) (h6 : G.1 6 = G.1 1 - G.1 1 / 3 * 3) : Each l D G A 57 :=
  each0 (c1_ok hst) h6 cb_57
theorem ea_58 {l : Launch} {D : va_G} {G : Gam} {A : Nat → Prop} (hst : l.stackTraces = false) (h6 : G.1 6 = G.1 1 - G.1 1 / 3 * 3) : Each l D G A 58 :=
  each0 (runM_ok hst 20) h6 ca_58
theorem ea_59 {l : Launch} {D : va_G} {G : Gam} {A : Nat → Prop} (hst : l.stackTraces = false) (h6 : G.1 6 = G.1 1 - G.1 1 / 3 * 3) : Each l D G A 59 :=
  each0 (runM_ok hst 20) h6 ca_59
theorem ea_60 {l : Launch} {D : va_G} {G : Gam} {A : Nat → Prop} (hst : l.stackTraces = false) (h6 : G.1 6 = G.1 1 - G.1 1 / 3 * 3) : Each l D G A 60 :=
  each0 (runM_ok hst 20) h6 ca_60
theorem ea_61 {l : Launch} {D : va_G} {G : Gam} {A : Nat → Prop} (hst : l.stackTraces = false) (h6 : G.1 6 = G.1 1 - G.1 1 / 3 * 3) : Each l D G A 61 :=
  each0 (runM_ok hst 20) h6 ca_61
theorem ea_out {l : Launch} {D : va_G} {G : Gam} {A : Nat → Prop} (hst : l.stackTraces = false) (h6 : G.1 6 = G.1 1 - G.1 1 / 3 * 3) (i : Nat) : Each l D G A (i + 62) :=
  each0 (runM_ok hst 20) h6 (show allR lEnd (runF (runM 20) 9 (ct_L_law 6) fuel9 (nthN swT swD 62) E0 466 15522 L1 [] M1) = true from ca_62)
theorem ea_all {l : Launch} {D : va_G} {G : Gam} {A : Nat → Prop} (hst : l.stackTraces = false) (h6 : G.1 6 = G.1 1 - G.1 1 / 3 * 3) (i : Nat) : Each l D G A i := by
  rcases i with _ | i
  · exact ea_0 hst h6
  rcases i with _ | i
  · exact ea_1 hst h6
  rcases i with _ | i
  · exact ea_2 hst h6
  rcases i with _ | i
  · exact ea_3 hst h6
  rcases i with _ | i
  · exact ea_4 hst h6
  rcases i with _ | i
  · exact ea_5 hst h6
  rcases i with _ | i
  · exact ea_6 hst h6
  rcases i with _ | i
  · exact ea_7 hst h6
  rcases i with _ | i
  · exact ea_8 hst h6
  rcases i with _ | i
  · exact ea_9 hst h6
  rcases i with _ | i
  · exact ea_10 hst h6
  rcases i with _ | i
  · exact ea_11 hst h6
  rcases i with _ | i
  · exact ea_12 hst h6
  rcases i with _ | i
  · exact ea_13 hst h6
  rcases i with _ | i
  · exact ea_14 hst h6
  rcases i with _ | i
  · exact ea_15 hst h6
  rcases i with _ | i
  · exact ea_16 hst h6
  rcases i with _ | i
  · exact ea_17 hst h6
  rcases i with _ | i
  · exact ea_18 hst h6
  rcases i with _ | i
  · exact ea_19 hst h6
  rcases i with _ | i
  · exact ea_20 hst h6
  rcases i with _ | i
  · exact ea_21 hst h6
  rcases i with _ | i
  · exact ea_22 hst h6
  rcases i with _ | i
  · exact ea_23 hst h6
  rcases i with _ | i
  · exact ea_24 hst h6
  rcases i with _ | i
  · exact ea_25 hst h6
  rcases i with _ | i
  · exact ea_26 hst h6
  rcases i with _ | i
  · exact ea_27 hst h6
  rcases i with _ | i
  · exact ea_28 hst h6
  rcases i with _ | i
  · exact ea_29 hst h6
  rcases i with _ | i
  · exact ea_30 hst h6
  rcases i with _ | i
  · exact ea_31 hst h6
  rcases i with _ | i
  · exact ea_32 hst h6
  rcases i with _ | i
  · exact ea_33 hst h6
  rcases i with _ | i
  · exact ea_34 hst h6
  rcases i with _ | i
  · exact ea_35 hst h6
  rcases i with _ | i
  · exact ea_36 hst h6
  rcases i with _ | i
  · exact ea_37 hst h6
  rcases i with _ | i
  · exact ea_38 hst h6
  rcases i with _ | i
  · exact ea_39 hst h6
  rcases i with _ | i
  · exact ea_40 hst h6
  rcases i with _ | i
  · exact ea_41 hst h6
  rcases i with _ | i
  · exact ea_42 hst h6
  rcases i with _ | i
  · exact ea_43 hst h6
  rcases i with _ | i
  · exact ea_44 hst h6
  rcases i with _ | i
  · exact ea_45 hst h6
  rcases i with _ | i
  · exact ea_46 hst h6
  rcases i with _ | i
  · exact ea_47 hst h6
  rcases i with _ | i
  · exact ea_48 hst h6
  rcases i with _ | i
  · exact ea_49 hst h6
  rcases i with _ | i
  · exact ea_50 hst h6
  rcases i with _ | i
  · exact ea_51 hst h6
  rcases i with _ | i
  · exact ea_52 hst h6
  rcases i with _ | i
  · exact ea_53 hst h6
  rcases i with _ | i
  · exact ea_54 hst h6
  rcases i with _ | i
  · exact ea_55 hst h6
  rcases i with _ | i
  · exact ea_56 hst h6
  rcases i with _ | i
  · exact ea_57 hst h6
  rcases i with _ | i
  · exact ea_58 hst h6
  rcases i with _ | i
  · exact ea_59 hst h6
  rcases i with _ | i
  · exact ea_60 hst h6
  rcases i with _ | i
  · exact ea_61 hst h6
  exact ea_out hst h6 i
theorem clM_1 : clM 9 M1 = true := by decide +kernel
noncomputable def dv6 (x : Nat → Int32) : Nat → Int32 := fun j => if j = 6 then x 1 - x 1 / 3 * 3 else x j
theorem whole_start {p : Program} {e : Env} {s : State} {m : MethodId} {below : List Frame} {meth : Method} {c : Code} (l : Launch) (hflags : l.flags = flags0) {b L : Nat} {xs : Nat → Int32} (hL : L ≤ 6) (C0 : lw_At p s m meth c b L xs) : W p l e room_1 s m #[Value.ref b] below meth c s.heap [] 0 0 (lw_Z below #[Value.ref b] s) (entryFrame m ([Value.ref b] : List Value).toArray 9) :=
  whole_of l hflags hL C0 dv6 (fun x j hj => if_neg (by omega)) (fun x => rfl) (L1 := L1) (L2 := L1) (M1 := M1) (n1 := 466) (z1 := 15522) clM_1 rfl (fun hst D ad => ⟨pref_e, short_b, eqO_eq to40_b, fun i => ea_all hst rfl i⟩)
