theorem B127_0 {ev : xV} {Q : Option Value → xM → Prop} {m : Nat} {Φ : (Nat → Nat → Int32) → xM} (hΦ : MLaw m Φ) {μ : Nat → Nat → Int32} (h : Q none (Φ (U (U (U (U (U (U (U (U (U (U (U (U μ 33 0 7) 34 0 10000) 34 1 3) 34 2 (-8)) 34 3 10001) 34 4 10) 34 5 (-8)) 34 6 (-6)) 33 1 3) 34 160 10003) 34 161 10002) 34 162 (-4)))) : wpE (xT 127) ev Q (0, [(0, .ref m)], [], Φ μ) := by
  refine p_ald (cc3 c127_0) rfl ?_
  refine pm_getp hΦ (cc3 c127_1) (c := 33) rfl (by decide) ?_
  refine p_push (cc3 c127_4) ?_
  refine p_push (cc3 c127_5) ?_
  refine pm_asti hΦ (c := 33) (n := 12) (k9 := 0) (cc3 c127_7) (by decide) rfl rfl (by decide) (by unfold vp_in; decide) ?_
  refine p_ald (cc3 c127_8) rfl ?_
  refine pm_getp hΦ (cc3 c127_9) (c := 34) rfl (by decide) ?_
  refine p_push (cc3 c127_12) ?_
  refine p_push (cc3 c127_13) ?_
  refine pm_asti hΦ (c := 34) (n := 1920) (k9 := 0) (cc3 c127_16) (by decide) rfl rfl (by decide) (by unfold vp_in; decide) ?_
  refine p_ald (cc3 c127_17) rfl ?_
  refine pm_getp hΦ (cc3 c127_18) (c := 34) rfl (by decide) ?_
  refine p_push (cc3 c127_21) ?_
  refine p_push (cc3 c127_22) ?_
  refine pm_asti hΦ (c := 34) (n := 1920) (k9 := 1) (cc3 c127_23) (by decide) rfl rfl (by decide) (by unfold vp_in; decide) ?_
  refine p_ald (cc3 c127_24) rfl ?_
  refine pm_getp hΦ (cc3 c127_25) (c := 34) rfl (by decide) ?_
  refine p_push (cc3 c127_28) ?_
  refine p_push (cc3 c127_29) ?_
  refine pm_asti hΦ (c := 34) (n := 1920) (k9 := 2) (cc3 c127_31) (by decide) rfl rfl (by decide) (by unfold vp_in; decide) ?_
  refine p_ald (cc3 c127_32) rfl ?_
  refine pm_getp hΦ (cc3 c127_33) (c := 34) rfl (by decide) ?_
  refine p_push (cc3 c127_36) ?_
  refine p_push (cc3 c127_37) ?_
  refine pm_asti hΦ (c := 34) (n := 1920) (k9 := 3) (cc3 c127_40) (by decide) rfl rfl (by decide) (by unfold vp_in; decide) ?_
  refine p_ald (cc3 c127_41) rfl ?_
  refine pm_getp hΦ (cc3 c127_42) (c := 34) rfl (by decide) ?_
  refine p_push (cc3 c127_45) ?_
  refine p_push (cc3 c127_46) ?_
  refine pm_asti hΦ (c := 34) (n := 1920) (k9 := 4) (cc3 c127_48) (by decide) rfl rfl (by decide) (by unfold vp_in; decide) ?_
  refine p_ald (cc3 c127_49) rfl ?_
  refine pm_getp hΦ (cc3 c127_50) (c := 34) rfl (by decide) ?_
  refine p_push (cc3 c127_53) ?_
  refine p_push (cc3 c127_54) ?_
  refine pm_asti hΦ (c := 34) (n := 1920) (k9 := 5) (cc3 c127_56) (by decide) rfl rfl (by decide) (by unfold vp_in; decide) ?_
  refine p_ald (cc3 c127_57) rfl ?_
  refine pm_getp hΦ (cc3 c127_58) (c := 34) rfl (by decide) ?_
  refine p_push (cc3 c127_61) ?_
  refine p_push (cc3 c127_63) ?_
  refine pm_asti hΦ (c := 34) (n := 1920) (k9 := 6) (cc3 c127_65) (by decide) rfl rfl (by decide) (by unfold vp_in; decide) ?_
  refine p_ald (cc3 c127_66) rfl ?_
  refine pm_getp hΦ (cc3 c127_67) (c := 33) rfl (by decide) ?_
  refine p_push (cc3 c127_70) ?_
  refine p_push (cc3 c127_71) ?_
  refine pm_asti hΦ (c := 33) (n := 12) (k9 := 1) (cc3 c127_72) (by decide) rfl rfl (by decide) (by unfold vp_in; decide) ?_
  refine p_ald (cc3 c127_73) rfl ?_
  refine pm_getp hΦ (cc3 c127_74) (c := 34) rfl (by decide) ?_
  refine p_push (cc3 c127_77) ?_
  refine p_push (cc3 c127_80) ?_
  refine pm_asti hΦ (c := 34) (n := 1920) (k9 := 160) (cc3 c127_83) (by decide) rfl rfl (by decide) (by unfold vp_in; decide) ?_
  refine p_ald (cc3 c127_84) rfl ?_
  refine pm_getp hΦ (cc3 c127_85) (c := 34) rfl (by decide) ?_
  refine p_push (cc3 c127_88) ?_
  refine p_push (cc3 c127_91) ?_
  refine pm_asti hΦ (c := 34) (n := 1920) (k9 := 161) (cc3 c127_94) (by decide) rfl rfl (by decide) (by unfold vp_in; decide) ?_
  refine p_ald (cc3 c127_95) rfl ?_
  refine pm_getp hΦ (cc3 c127_96) (c := 34) rfl (by decide) ?_
  refine p_push (cc3 c127_99) ?_
  refine p_push (cc3 c127_102) ?_
  refine pm_asti hΦ (c := 34) (n := 1920) (k9 := 162) (cc3 c127_104) (by decide) rfl rfl (by decide) (by unfold vp_in; decide) ?_
  exact p_rv (cc3 c127_105) h
theorem B128_0 {ev : xV} {Q : Option Value → xM → Prop} {m : Nat} {Φ : (Nat → Nat → Int32) → xM} (hΦ : MLaw m Φ) {μ : Nat → Nat → Int32} {x1 : Int32} {w2 : Int64} (h : (∃ r μ', ev 129 [.ref m, .int x1, .int 1, .int 8] (Φ μ) (some (.int r)) (Φ μ') ∧ wpE (xT 128) ev Q (8, [(0, .ref m), (1, .int x1), (2, .long w2)], [.int r], Φ μ'))) : wpE (xT 128) ev Q (0, [(0, .ref m), (1, .int x1), (2, .long w2)], [], Φ μ) := by
  refine p_ald (cc3 c128_0) rfl ?_
  refine p_ild (cc3 c128_1) rfl ?_
  refine p_push (cc3 c128_2) ?_
  refine p_push (cc3 c128_3) ?_
  obtain ⟨r, μ', he, h⟩ := h
  exact p_callV (cc3 c128_5) (Nat.le_of_ble_eq_true rfl) rfl rfl (Nat.le_of_ble_eq_true rfl) (ml_kd hΦ) he h
theorem B128_8 {ev : xV} {Q : Option Value → xM → Prop} {m : Nat} {Φ : (Nat → Nat → Int32) → xM} (hΦ : MLaw m Φ) {μ : Nat → Nat → Int32} {x1 s0 : Int32} {w2 : Int64} (h : ((s0 = 0) → Q (some (.int ((-2)))) (Φ μ)) ∧ (¬ (s0 = 0) → ((((μ 0 1) + x1) ≤ 160) → wpE (xT 128) ev Q (32, [(0, .ref m), (1, .int x1), (2, .long w2), (4, .int 0)], [], Φ μ)) ∧ (¬ (((μ 0 1) + x1) ≤ 160) → Q (some (.int ((-4)))) (Φ μ)))) : wpE (xT 128) ev Q (8, [(0, .ref m), (1, .int x1), (2, .long w2)], [.int s0], Φ μ) := by
  refine p_if (cc3 c128_8) (fun c => ?_) (fun c => ?_)
  · have h := h.1 c
    refine p_push (cc3 c128_11) ?_
    exact p_ri (cc3 c128_13) trivial h
  · have h := h.2 c
    refine p_ald (cc3 c128_14) rfl ?_
    refine pm_geti hΦ (v := μ 0 1) (cc3 c128_15) rfl ?_
    refine p_ild (cc3 c128_18) rfl ?_
    refine p_bin (cc3 c128_19) ?_
    refine p_push (cc3 c128_20) ?_
    refine p_icmp (cc3 c128_23) (fun c => ?_) (fun c => ?_)
    · have h := h.1 c
      refine p_push (cc3 c128_29) ?_
      refine p_ist (ls' := [(4, .int 0), (0, .ref m), (1, .int x1), (2, .long w2)]) (cc3 c128_30) (by decide) rfl ?_
      exact p_lc (ls' := [(0, .ref m), (1, .int x1), (2, .long w2), (4, .int 0)]) c128_32 rfl rfl h
    · have h := h.2 c
      refine p_push (cc3 c128_26) ?_
      exact p_ri (cc3 c128_28) trivial h
theorem B128_32 {ev : xV} {Q : Option Value → xM → Prop} {m : Nat} {Φ : (Nat → Nat → Int32) → xM} (hΦ : MLaw m Φ) {μ : Nat → Nat → Int32} {x1 x4 : Int32} {w2 : Int64} (h : ((x1 ≤ x4) → Q (some (.int (μ 0 1))) (Φ μ)) ∧ (¬ (x1 ≤ x4) → vp_in (μ 0 1) 160 ∧ wpE (xT 128) ev Q (32, [(0, .ref m), (1, .int x1), (2, .long w2), (4, .int (x4 + 1))], [], Φ (U (U μ 1 ((μ 0 1).toNatClampNeg) (vp_nar .byte (((w2 >>> ((8 * x4).toInt64 &&& 63)).toInt32).toInt8.toInt32))) 0 1 ((μ 0 1) + 1))))) : wpE (xT 128) ev Q (32, [(0, .ref m), (1, .int x1), (2, .long w2), (4, .int x4)], [], Φ μ) := by
  refine p_ild (cct c128_32 rfl) rfl ?_
  refine p_ild (cc3 c128_34) rfl ?_
  refine p_icmp (cc3 c128_35) (fun c => ?_) (fun c => ?_)
  · have h := h.1 c
    refine p_ald (cc3 c128_72) rfl ?_
    refine pm_geti hΦ (v := μ 0 1) (cc3 c128_73) rfl ?_
    exact p_ri (cc3 c128_76) trivial h
  · have h := h.2 c
    refine p_ald (cc3 c128_38) rfl ?_
    refine pm_getp hΦ (cc3 c128_39) (c := 1) rfl (by decide) ?_
    refine p_ald (cc3 c128_42) rfl ?_
    refine pm_geti hΦ (v := μ 0 1) (cc3 c128_43) rfl ?_
    refine p_lld (cc3 c128_46) rfl ?_
    refine p_push (cc3 c128_47) ?_
    refine p_ild (cc3 c128_49) rfl ?_
    refine p_bin (cc3 c128_51) ?_
    refine p_shL (cc3 c128_52) ?_
    refine p_l2i (cc3 c128_53) ?_
    refine p_un (cc3 c128_54) ?_
    obtain ⟨g, h⟩ := h
    refine pm_asti hΦ (c := 1) (n := 160) (cc3 c128_55) (by decide) rfl rfl rfl g ?_
    refine p_ald (cc3 c128_56) rfl ?_
    refine p_dup (cc3 c128_57) rfl ?_
    refine pm_geti hΦ (v := μ 0 1) (cc3 c128_58) rfl ?_
    refine p_push (cc3 c128_61) ?_
    refine p_bin (cc3 c128_62) ?_
    refine pm_puti hΦ (cc3 c128_63) ?_
    refine p_iinc (y := x4 + 1) (ls' := [(4, .int (x4 + 1)), (0, .ref m), (1, .int x1), (2, .long w2)]) (cc3 c128_66) (by decide) rfl rfl rfl ?_
    refine p_goto (cc3 c128_69) ?_
    exact p_lc (ls' := [(0, .ref m), (1, .int x1), (2, .long w2), (4, .int (x4 + 1))]) c128_32 rfl rfl h
theorem B129_0 {ev : xV} {Q : Option Value → xM → Prop} {m : Nat} {Φ : (Nat → Nat → Int32) → xM} (hΦ : MLaw m Φ) {μ : Nat → Nat → Int32} {x1 x2 x3 : Int32} (h : ((x1 < x2) → Q (some (.int 0)) (Φ μ)) ∧ (¬ (x1 < x2) → ((x3 < x1) → Q (some (.int 0)) (Φ μ)) ∧ (¬ (x3 < x1) → Q (some (.int 1)) (Φ μ)))) : wpE (xT 129) ev Q (0, [(0, .ref m), (1, .int x1), (2, .int x2), (3, .int x3)], [], Φ μ) := by
  refine p_ild (cc3 c129_0) rfl ?_
  refine p_ild (cc3 c129_1) rfl ?_
  refine p_icmp (cc3 c129_2) (fun c => ?_) (fun c => ?_)
  · have h := h.1 c
    refine p_lc (ls' := []) c129_14 rfl rfl ?_
    refine p_push (cct c129_14 rfl) ?_
    exact p_ri (cct c129_15 rfl) (by decide) h
  · have h := h.2 c
    refine p_ild (cc3 c129_5) rfl ?_
    refine p_ild (cc3 c129_6) rfl ?_
    refine p_icmp (cc3 c129_7) (fun c => ?_) (fun c => ?_)
    · have h := h.1 c
      refine p_lc (ls' := []) c129_14 rfl rfl ?_
      refine p_push (cct c129_14 rfl) ?_
      exact p_ri (cct c129_15 rfl) (by decide) h
    · have h := h.2 c
      refine p_push (cc3 c129_10) ?_
      refine p_goto (cc3 c129_11) ?_
      refine p_lc (ls' := []) c129_15 rfl rfl ?_
      exact p_ri (cct c129_15 rfl) (by decide) h
theorem B130_0 {ev : xV} {Q : Option Value → xM → Prop} {m : Nat} {Φ : (Nat → Nat → Int32) → xM} (hΦ : MLaw m Φ) {μ : Nat → Nat → Int32} (h : (((μ 0 2) = 4) → Q (some (.int ((-4)))) (Φ μ)) ∧ (¬ ((μ 0 2) = 4) → (∃ r μ', ev 131 [.ref m, .int (μ 0 2)] (Φ μ) (some (.int r)) (Φ μ') ∧ wpE (xT 130) ev Q (19, [(0, .ref m)], [.int r], Φ μ')))) : wpE (xT 130) ev Q (0, [(0, .ref m)], [], Φ μ) := by
  refine p_ald (cc3 c130_0) rfl ?_
  refine pm_geti hΦ (v := μ 0 2) (cc3 c130_1) rfl ?_
  refine p_push (cc3 c130_4) ?_
  refine p_icmp (cc3 c130_5) (fun c => ?_) (fun c => ?_)
  · have h := h.1 c
    refine p_push (cc3 c130_8) ?_
    exact p_ri (cc3 c130_10) trivial h
  · have h := h.2 c
    refine p_ald (cc3 c130_11) rfl ?_
    refine p_ald (cc3 c130_12) rfl ?_
    refine pm_geti hΦ (v := μ 0 2) (cc3 c130_13) rfl ?_
    obtain ⟨r, μ', he, h⟩ := h
    exact p_callV (cc3 c130_16) (Nat.le_of_ble_eq_true rfl) rfl rfl (Nat.le_of_ble_eq_true rfl) (ml_kd hΦ) he h
theorem B130_19 {ev : xV} {Q : Option Value → xM → Prop} {m : Nat} {Φ : (Nat → Nat → Int32) → xM} (hΦ : MLaw m Φ) {μ : Nat → Nat → Int32} {s0 : Int32} (h : ((s0 = 0) → Q (some (.int ((-100) - (μ 0 46)))) (Φ (U μ 0 1 0))) ∧ (¬ (s0 = 0) → wpE (xT 130) ev Q (44, [(0, .ref m), (3, .int 0), (4, .int 0)], [], Φ (U μ 0 1 0)))) : wpE (xT 130) ev Q (19, [(0, .ref m)], [.int s0], Φ μ) := by
  refine p_ist (ls' := [(1, .int s0), (0, .ref m)]) (cc3 c130_19) (by decide) rfl ?_
  refine p_ald (cc3 c130_20) rfl ?_
  refine pm_geti hΦ (v := μ 0 46) (cc3 c130_21) rfl ?_
  refine p_ist (ls' := [(2, .int (μ 0 46)), (1, .int s0), (0, .ref m)]) (cc3 c130_24) (by decide) rfl ?_
  refine p_ald (cc3 c130_25) rfl ?_
  refine p_push (cc3 c130_26) ?_
  refine pm_puti hΦ (cc3 c130_27) ?_
  refine p_ild (cc3 c130_30) rfl ?_
  refine p_if (cc3 c130_31) (fun c => ?_) (fun c => ?_)
  · have h := h.1 c
    refine p_push (cc3 c130_34) ?_
    refine p_ild (cc3 c130_36) rfl ?_
    refine p_bin (cc3 c130_37) ?_
    exact p_ri (cc3 c130_38) trivial h
  · have h := h.2 c
    refine p_push (cc3 c130_39) ?_
    refine p_ist (ls' := [(3, .int 0), (2, .int (μ 0 46)), (1, .int s0), (0, .ref m)]) (cc3 c130_40) (by decide) rfl ?_
    refine p_push (cc3 c130_41) ?_
    refine p_ist (ls' := [(4, .int 0), (3, .int 0), (2, .int (μ 0 46)), (1, .int s0), (0, .ref m)]) (cc3 c130_42) (by decide) rfl ?_
    exact p_lc (ls' := [(0, .ref m), (3, .int 0), (4, .int 0)]) c130_44 rfl rfl h
theorem B130_44 {ev : xV} {Q : Option Value → xM → Prop} {m : Nat} {Φ : (Nat → Nat → Int32) → xM} (hΦ : MLaw m Φ) {μ : Nat → Nat → Int32} {x3 x4 : Int32} (h : vp_in (μ 0 2) 5 ∧ (((μ 2 (μ 0 2).toNatClampNeg) ≤ x4) → ((x3 ≤ 400) → vp_in (μ 0 2) 5 ∧ Q (some (.int (((μ 0 2) + 1) - 1))) (Φ (U (U μ 3 ((μ 0 2).toNatClampNeg) x3) 0 2 ((μ 0 2) + 1)))) ∧ (¬ (x3 ≤ 400) → Q (some (.int ((-9)))) (Φ μ))) ∧ (¬ ((μ 2 (μ 0 2).toNatClampNeg) ≤ x4) → vp_in ((10 * (μ 0 2)) + x4) 50 ∧ vp_in (μ 0 2) 5 ∧ (((μ 6 (μ 0 2).toNatClampNeg) = 0) → wpE (xT 130) ev Q (44, [(0, .ref m), (3, .int (x3 + ((μ 5 ((10 * (μ 0 2)) + x4).toNatClampNeg) * 1))), (4, .int (x4 + 1))], [], Φ μ)) ∧ (¬ ((μ 6 (μ 0 2).toNatClampNeg) = 0) → ((x4 ≤ 0) → wpE (xT 130) ev Q (44, [(0, .ref m), (3, .int (x3 + ((μ 5 ((10 * (μ 0 2)) + x4).toNatClampNeg) * 1))), (4, .int (x4 + 1))], [], Φ μ)) ∧ (¬ (x4 ≤ 0) → vp_in (μ 0 2) 5 ∧ ((((μ 2 (μ 0 2).toNatClampNeg) - 1) ≤ x4) → wpE (xT 130) ev Q (44, [(0, .ref m), (3, .int (x3 + ((μ 5 ((10 * (μ 0 2)) + x4).toNatClampNeg) * 1))), (4, .int (x4 + 1))], [], Φ μ)) ∧ (¬ (((μ 2 (μ 0 2).toNatClampNeg) - 1) ≤ x4) → wpE (xT 130) ev Q (44, [(0, .ref m), (3, .int (x3 + ((μ 5 ((10 * (μ 0 2)) + x4).toNatClampNeg) * 2))), (4, .int (x4 + 1))], [], Φ μ)))))) : wpE (xT 130) ev Q (44, [(0, .ref m), (3, .int x3), (4, .int x4)], [], Φ μ) := by
  refine p_ild (cct c130_44 rfl) rfl ?_
  refine p_ald (cc3 c130_46) rfl ?_
  refine pm_getp hΦ (cc3 c130_47) (c := 2) rfl (by decide) ?_
  refine p_ald (cc3 c130_50) rfl ?_
  refine pm_geti hΦ (v := μ 0 2) (cc3 c130_51) rfl ?_
  obtain ⟨g, h⟩ := h
  refine pm_aldi hΦ (c := 2) (n := 5) (cc3 c130_54) (by decide) rfl rfl rfl g rfl ?_
  refine p_icmp (cc3 c130_55) (fun c => ?_) (fun c => ?_)
  · have h := h.1 c
    refine p_ild (cc3 c130_121) rfl ?_
    refine p_push (cc3 c130_122) ?_
    refine p_icmp (cc3 c130_125) (fun c => ?_) (fun c => ?_)
    · have h := h.1 c
      refine p_ald (cc3 c130_131) rfl ?_
      refine pm_getp hΦ (cc3 c130_132) (c := 3) rfl (by decide) ?_
      refine p_ald (cc3 c130_135) rfl ?_
      refine pm_geti hΦ (v := μ 0 2) (cc3 c130_136) rfl ?_
      refine p_ild (cc3 c130_139) rfl ?_
      obtain ⟨g, h⟩ := h
      refine pm_asti hΦ (c := 3) (n := 5) (cc3 c130_140) (by decide) rfl rfl rfl g ?_
      refine p_ald (cc3 c130_141) rfl ?_
      refine p_dup (cc3 c130_142) rfl ?_
      refine pm_geti hΦ (v := μ 0 2) (cc3 c130_143) rfl ?_
      refine p_push (cc3 c130_146) ?_
      refine p_bin (cc3 c130_147) ?_
      refine pm_puti hΦ (cc3 c130_148) ?_
      refine p_ald (cc3 c130_151) rfl ?_
      refine pm_geti hΦ (v := (μ 0 2) + 1) (cc3 c130_152) rfl ?_
      refine p_push (cc3 c130_155) ?_
      refine p_bin (cc3 c130_156) ?_
      exact p_ri (cc3 c130_157) trivial h
    · have h := h.2 c
      refine p_push (cc3 c130_128) ?_
      exact p_ri (cc3 c130_130) trivial h
  · have h := h.2 c
    refine p_ild (cc3 c130_58) rfl ?_
    refine p_ald (cc3 c130_59) rfl ?_
    refine pm_getp hΦ (cc3 c130_60) (c := 5) rfl (by decide) ?_
    refine p_push (cc3 c130_63) ?_
    refine p_ald (cc3 c130_65) rfl ?_
    refine pm_geti hΦ (v := μ 0 2) (cc3 c130_66) rfl ?_
    refine p_bin (cc3 c130_69) ?_
    refine p_ild (cc3 c130_70) rfl ?_
    refine p_bin (cc3 c130_72) ?_
    obtain ⟨g, h⟩ := h
    refine pm_aldi hΦ (c := 5) (n := 50) (cc3 c130_73) (by decide) rfl rfl rfl g rfl ?_
    refine p_ald (cc3 c130_74) rfl ?_
    refine pm_getp hΦ (cc3 c130_75) (c := 6) rfl (by decide) ?_
    refine p_ald (cc3 c130_78) rfl ?_
    refine pm_geti hΦ (v := μ 0 2) (cc3 c130_79) rfl ?_
    obtain ⟨g, h⟩ := h
    refine pm_aldi hΦ (c := 6) (n := 5) (cc3 c130_82) (by decide) rfl rfl rfl g rfl ?_
    refine p_if (cc3 c130_83) (fun c => ?_) (fun c => ?_)
    · have h := h.1 c
      refine p_lc (ls' := [(0, .ref m), (4, .int x4)]) c130_111 rfl rfl ?_
      refine p_push (cct c130_111 rfl) ?_
      refine p_bin (cct c130_112 rfl) ?_
      refine p_bin (cc3 c130_113) ?_
      refine p_ist (ls' := [(3, .int (x3 + ((μ 5 ((10 * (μ 0 2)) + x4).toNatClampNeg) * 1))), (0, .ref m), (4, .int x4)]) (cc3 c130_114) (by decide) rfl ?_
      refine p_iinc (y := x4 + 1) (ls' := [(4, .int (x4 + 1)), (3, .int (x3 + ((μ 5 ((10 * (μ 0 2)) + x4).toNatClampNeg) * 1))), (0, .ref m)]) (cc3 c130_115) (by decide) rfl rfl rfl ?_
      refine p_goto (cc3 c130_118) ?_
      exact p_lc (ls' := [(0, .ref m), (3, .int (x3 + ((μ 5 ((10 * (μ 0 2)) + x4).toNatClampNeg) * 1))), (4, .int (x4 + 1))]) c130_44 rfl rfl h
    · have h := h.2 c
      refine p_ild (cc3 c130_86) rfl ?_
      refine p_if (cc3 c130_88) (fun c => ?_) (fun c => ?_)
      · have h := h.1 c
        refine p_lc (ls' := [(0, .ref m), (4, .int x4)]) c130_111 rfl rfl ?_
        refine p_push (cct c130_111 rfl) ?_
        refine p_bin (cct c130_112 rfl) ?_
        refine p_bin (cc3 c130_113) ?_
        refine p_ist (ls' := [(3, .int (x3 + ((μ 5 ((10 * (μ 0 2)) + x4).toNatClampNeg) * 1))), (0, .ref m), (4, .int x4)]) (cc3 c130_114) (by decide) rfl ?_
        refine p_iinc (y := x4 + 1) (ls' := [(4, .int (x4 + 1)), (3, .int (x3 + ((μ 5 ((10 * (μ 0 2)) + x4).toNatClampNeg) * 1))), (0, .ref m)]) (cc3 c130_115) (by decide) rfl rfl rfl ?_
        refine p_goto (cc3 c130_118) ?_
        exact p_lc (ls' := [(0, .ref m), (3, .int (x3 + ((μ 5 ((10 * (μ 0 2)) + x4).toNatClampNeg) * 1))), (4, .int (x4 + 1))]) c130_44 rfl rfl h
      · have h := h.2 c
        refine p_ild (cc3 c130_91) rfl ?_
        refine p_ald (cc3 c130_93) rfl ?_
        refine pm_getp hΦ (cc3 c130_94) (c := 2) rfl (by decide) ?_
        refine p_ald (cc3 c130_97) rfl ?_
        refine pm_geti hΦ (v := μ 0 2) (cc3 c130_98) rfl ?_
        obtain ⟨g, h⟩ := h
        refine pm_aldi hΦ (c := 2) (n := 5) (cc3 c130_101) (by decide) rfl rfl rfl g rfl ?_
        refine p_push (cc3 c130_102) ?_
        refine p_bin (cc3 c130_103) ?_
        refine p_icmp (cc3 c130_104) (fun c => ?_) (fun c => ?_)
        · have h := h.1 c
          refine p_lc (ls' := [(0, .ref m), (4, .int x4)]) c130_111 rfl rfl ?_
          refine p_push (cct c130_111 rfl) ?_
          refine p_bin (cct c130_112 rfl) ?_
          refine p_bin (cc3 c130_113) ?_
          refine p_ist (ls' := [(3, .int (x3 + ((μ 5 ((10 * (μ 0 2)) + x4).toNatClampNeg) * 1))), (0, .ref m), (4, .int x4)]) (cc3 c130_114) (by decide) rfl ?_
          refine p_iinc (y := x4 + 1) (ls' := [(4, .int (x4 + 1)), (3, .int (x3 + ((μ 5 ((10 * (μ 0 2)) + x4).toNatClampNeg) * 1))), (0, .ref m)]) (cc3 c130_115) (by decide) rfl rfl rfl ?_
          refine p_goto (cc3 c130_118) ?_
          exact p_lc (ls' := [(0, .ref m), (3, .int (x3 + ((μ 5 ((10 * (μ 0 2)) + x4).toNatClampNeg) * 1))), (4, .int (x4 + 1))]) c130_44 rfl rfl h
        · have h := h.2 c
          refine p_push (cc3 c130_107) ?_
          refine p_goto (cc3 c130_108) ?_
          refine p_lc (ls' := [(0, .ref m), (4, .int x4)]) c130_112 rfl rfl ?_
          refine p_bin (cct c130_112 rfl) ?_
          refine p_bin (cc3 c130_113) ?_
          refine p_ist (ls' := [(3, .int (x3 + ((μ 5 ((10 * (μ 0 2)) + x4).toNatClampNeg) * 2))), (0, .ref m), (4, .int x4)]) (cc3 c130_114) (by decide) rfl ?_
          refine p_iinc (y := x4 + 1) (ls' := [(4, .int (x4 + 1)), (3, .int (x3 + ((μ 5 ((10 * (μ 0 2)) + x4).toNatClampNeg) * 2))), (0, .ref m)]) (cc3 c130_115) (by decide) rfl rfl rfl ?_
          refine p_goto (cc3 c130_118) ?_
          exact p_lc (ls' := [(0, .ref m), (3, .int (x3 + ((μ 5 ((10 * (μ 0 2)) + x4).toNatClampNeg) * 2))), (4, .int (x4 + 1))]) c130_44 rfl rfl h
theorem B131_0 {ev : xV} {Q : Option Value → xM → Prop} {m : Nat} {Φ : (Nat → Nat → Int32) → xM} (hΦ : MLaw m Φ) {μ : Nat → Nat → Int32} {x1 : Int32} (h : vp_in x1 5 ∧ (∃ r μ', ev 132 [.ref m, .int x1] (Φ (U (U μ 0 46 0) 2 x1.toNatClampNeg 0)) (some (.int r)) (Φ μ') ∧ wpE (xT 131) ev Q (17, [(0, .ref m), (1, .int x1)], [.int r], Φ μ'))) : wpE (xT 131) ev Q (0, [(0, .ref m), (1, .int x1)], [], Φ μ) := by
  refine p_ald (cc3 c131_0) rfl ?_
  refine p_push (cc3 c131_1) ?_
  refine pm_puti hΦ (cc3 c131_2) ?_
  refine p_ald (cc3 c131_5) rfl ?_
  refine pm_getp hΦ (cc3 c131_6) (c := 2) rfl (by decide) ?_
  refine p_ild (cc3 c131_9) rfl ?_
  refine p_push (cc3 c131_10) ?_
  obtain ⟨g, h⟩ := h
  refine pm_asti hΦ (c := 2) (n := 5) (cc3 c131_11) (by decide) rfl rfl rfl g ?_
  refine p_ald (cc3 c131_12) rfl ?_
  refine p_ild (cc3 c131_13) rfl ?_
  obtain ⟨r, μ', he, h⟩ := h
  exact p_callV (cc3 c131_14) (Nat.le_of_ble_eq_true rfl) rfl rfl (Nat.le_of_ble_eq_true rfl) (ml_kd hΦ) he h
theorem B131_17 {ev : xV} {Q : Option Value → xM → Prop} {m : Nat} {Φ : (Nat → Nat → Int32) → xM} (hΦ : MLaw m Φ) {μ : Nat → Nat → Int32} {x1 s0 : Int32} (h : ((s0 = 0) → Q (some (.int 0)) (Φ μ)) ∧ (¬ (s0 = 0) → wpE (xT 131) ev Q (22, [(0, .ref m), (1, .int x1)], [], Φ μ))) : wpE (xT 131) ev Q (17, [(0, .ref m), (1, .int x1)], [.int s0], Φ μ) := by
  refine p_if (cc3 c131_17) (fun c => ?_) (fun c => ?_)
  · have h := h.1 c
    refine p_push (cc3 c131_20) ?_
    exact p_ri (cc3 c131_21) (by decide) h
  · have h := h.2 c
    exact h
theorem B131_22 {ev : xV} {Q : Option Value → xM → Prop} {m : Nat} {Φ : (Nat → Nat → Int32) → xM} (hΦ : MLaw m Φ) {μ : Nat → Nat → Int32} {x1 : Int32} (h : (((μ 0 1) ≤ (μ 0 46)) → wpE (xT 131) ev Q (78, [(0, .ref m), (1, .int x1)], [], Φ μ)) ∧ (¬ ((μ 0 1) ≤ (μ 0 46)) → vp_in (μ 0 46) 160 ∧ (((μ 1 (μ 0 46).toNatClampNeg) = 32) → vp_in x1 5 ∧ ((10 ≤ (μ 2 x1.toNatClampNeg)) → wpE (xT 131) ev Q (78, [(0, .ref m), (1, .int x1)], [], Φ μ)) ∧ (¬ (10 ≤ (μ 2 x1.toNatClampNeg)) → (∃ r μ', ev 132 [.ref m, .int x1] (Φ (U μ 0 46 ((μ 0 46) + 1))) (some (.int r)) (Φ μ') ∧ wpE (xT 131) ev Q (73, [(0, .ref m), (1, .int x1)], [.int r], Φ μ')))) ∧ (¬ ((μ 1 (μ 0 46).toNatClampNeg) = 32) → wpE (xT 131) ev Q (78, [(0, .ref m), (1, .int x1)], [], Φ μ)))) : wpE (xT 131) ev Q (22, [(0, .ref m), (1, .int x1)], [], Φ μ) := by
  refine p_ald (cct c131_22 rfl) rfl ?_
  refine pm_geti hΦ (v := μ 0 46) (cc3 c131_23) rfl ?_
  refine p_ald (cc3 c131_26) rfl ?_
  refine pm_geti hΦ (v := μ 0 1) (cc3 c131_27) rfl ?_
  refine p_icmp (cc3 c131_30) (fun c => ?_) (fun c => ?_)
  · have h := h.1 c
    exact h
  · have h := h.2 c
    refine p_ald (cc3 c131_33) rfl ?_
    refine pm_getp hΦ (cc3 c131_34) (c := 1) rfl (by decide) ?_
    refine p_ald (cc3 c131_37) rfl ?_
    refine pm_geti hΦ (v := μ 0 46) (cc3 c131_38) rfl ?_
    obtain ⟨g, h⟩ := h
    refine pm_aldi hΦ (c := 1) (n := 160) (cc3 c131_41) (by decide) rfl rfl rfl g rfl ?_
    refine p_push (cc3 c131_42) ?_
    refine p_icmp (cc3 c131_44) (fun c => ?_) (fun c => ?_)
    · have h := h.1 c
      refine p_ald (cc3 c131_47) rfl ?_
      refine pm_getp hΦ (cc3 c131_48) (c := 2) rfl (by decide) ?_
      refine p_ild (cc3 c131_51) rfl ?_
      obtain ⟨g, h⟩ := h
      refine pm_aldi hΦ (c := 2) (n := 5) (cc3 c131_52) (by decide) rfl rfl rfl g rfl ?_
      refine p_push (cc3 c131_53) ?_
      refine p_icmp (cc3 c131_55) (fun c => ?_) (fun c => ?_)
      · have h := h.1 c
        exact h
      · have h := h.2 c
        refine p_ald (cc3 c131_58) rfl ?_
        refine p_dup (cc3 c131_59) rfl ?_
        refine pm_geti hΦ (v := μ 0 46) (cc3 c131_60) rfl ?_
        refine p_push (cc3 c131_63) ?_
        refine p_bin (cc3 c131_64) ?_
        refine pm_puti hΦ (cc3 c131_65) ?_
        refine p_ald (cc3 c131_68) rfl ?_
        refine p_ild (cc3 c131_69) rfl ?_
        obtain ⟨r, μ', he, h⟩ := h
        exact p_callV (cc3 c131_70) (Nat.le_of_ble_eq_true rfl) rfl rfl (Nat.le_of_ble_eq_true rfl) (ml_kd hΦ) he h
    · have h := h.2 c
      exact h
theorem B131_73 {ev : xV} {Q : Option Value → xM → Prop} {m : Nat} {Φ : (Nat → Nat → Int32) → xM} (hΦ : MLaw m Φ) {μ : Nat → Nat → Int32} {x1 s0 : Int32} (h : ((s0 = 0) → Q (some (.int 0)) (Φ μ)) ∧ (¬ (s0 = 0) → wpE (xT 131) ev Q (22, [(0, .ref m), (1, .int x1)], [], Φ μ))) : wpE (xT 131) ev Q (73, [(0, .ref m), (1, .int x1)], [.int s0], Φ μ) := by
  refine p_if (cc3 c131_73) (fun c => ?_) (fun c => ?_)
  · have h := h.1 c
    refine p_push (cc3 c131_76) ?_
    exact p_ri (cc3 c131_77) (by decide) h
  · have h := h.2 c
    exact h
theorem B131_78 {ev : xV} {Q : Option Value → xM → Prop} {m : Nat} {Φ : (Nat → Nat → Int32) → xM} (hΦ : MLaw m Φ) {μ : Nat → Nat → Int32} {x1 : Int32} (h : (((μ 0 46) = (μ 0 1)) → Q (some (.int 0)) (Φ μ)) ∧ (¬ ((μ 0 46) = (μ 0 1)) → vp_in (μ 0 46) 160 ∧ (((μ 1 (μ 0 46).toNatClampNeg) = 47) → wpE (xT 131) ev Q (119, [(0, .ref m), (1, .int x1)], [], Φ μ)) ∧ (¬ ((μ 1 (μ 0 46).toNatClampNeg) = 47) → vp_in (μ 0 46) 160 ∧ (((μ 1 (μ 0 46).toNatClampNeg) = 59) → wpE (xT 131) ev Q (119, [(0, .ref m), (1, .int x1)], [], Φ μ)) ∧ (¬ ((μ 1 (μ 0 46).toNatClampNeg) = 59) → Q (some (.int 0)) (Φ μ))))) : wpE (xT 131) ev Q (78, [(0, .ref m), (1, .int x1)], [], Φ μ) := by
  refine p_ald (cct c131_78 rfl) rfl ?_
  refine pm_geti hΦ (v := μ 0 46) (cc3 c131_79) rfl ?_
  refine p_ald (cc3 c131_82) rfl ?_
  refine pm_geti hΦ (v := μ 0 1) (cc3 c131_83) rfl ?_
  refine p_icmp (cc3 c131_86) (fun c => ?_) (fun c => ?_)
  · have h := h.1 c
    refine p_lc (ls' := []) c131_117 rfl rfl ?_
    refine p_push (cct c131_117 rfl) ?_
    exact p_ri (cc3 c131_118) (by decide) h
  · have h := h.2 c
    refine p_ald (cc3 c131_89) rfl ?_
    refine pm_getp hΦ (cc3 c131_90) (c := 1) rfl (by decide) ?_
    refine p_ald (cc3 c131_93) rfl ?_
    refine pm_geti hΦ (v := μ 0 46) (cc3 c131_94) rfl ?_
    obtain ⟨g, h⟩ := h
    refine pm_aldi hΦ (c := 1) (n := 160) (cc3 c131_97) (by decide) rfl rfl rfl g rfl ?_
    refine p_push (cc3 c131_98) ?_
    refine p_icmp (cc3 c131_100) (fun c => ?_) (fun c => ?_)
    · have h := h.1 c
      exact h
    · have h := h.2 c
      refine p_ald (cc3 c131_103) rfl ?_
      refine pm_getp hΦ (cc3 c131_104) (c := 1) rfl (by decide) ?_
      refine p_ald (cc3 c131_107) rfl ?_
      refine pm_geti hΦ (v := μ 0 46) (cc3 c131_108) rfl ?_
      obtain ⟨g, h⟩ := h
      refine pm_aldi hΦ (c := 1) (n := 160) (cc3 c131_111) (by decide) rfl rfl rfl g rfl ?_
      refine p_push (cc3 c131_112) ?_
      refine p_icmp (cc3 c131_114) (fun c => ?_) (fun c => ?_)
      · have h := h.1 c
        exact h
      · have h := h.2 c
        refine p_lc (ls' := []) c131_117 rfl rfl ?_
        refine p_push (cct c131_117 rfl) ?_
        exact p_ri (cc3 c131_118) (by decide) h
theorem B131_119 {ev : xV} {Q : Option Value → xM → Prop} {m : Nat} {Φ : (Nat → Nat → Int32) → xM} (hΦ : MLaw m Φ) {μ : Nat → Nat → Int32} {x1 : Int32} (h : vp_in (μ 0 46) 160 ∧ (((μ 1 (μ 0 46).toNatClampNeg) = 47) → wpE (xT 131) ev Q (143, [(0, .ref m)], [.int 1, .int x1, .ref (m + 6)], Φ μ)) ∧ (¬ ((μ 1 (μ 0 46).toNatClampNeg) = 47) → wpE (xT 131) ev Q (143, [(0, .ref m)], [.int 0, .int x1, .ref (m + 6)], Φ μ))) : wpE (xT 131) ev Q (119, [(0, .ref m), (1, .int x1)], [], Φ μ) := by
  refine p_ald (cct c131_119 rfl) rfl ?_
  refine pm_getp hΦ (cc3 c131_120) (c := 6) rfl (by decide) ?_
  refine p_ild (cc3 c131_123) rfl ?_
  refine p_ald (cc3 c131_124) rfl ?_
  refine pm_getp hΦ (cc3 c131_125) (c := 1) rfl (by decide) ?_
  refine p_ald (cc3 c131_128) rfl ?_
  refine pm_geti hΦ (v := μ 0 46) (cc3 c131_129) rfl ?_
  obtain ⟨g, h⟩ := h
  refine pm_aldi hΦ (c := 1) (n := 160) (cc3 c131_132) (by decide) rfl rfl rfl g rfl ?_
  refine p_push (cc3 c131_133) ?_
  refine p_icmp (cc3 c131_135) (fun c => ?_) (fun c => ?_)
  · have h := h.1 c
    refine p_push (cc3 c131_138) ?_
    refine p_goto (cc3 c131_139) ?_
    exact p_lc (ls' := [(0, .ref m)]) c131_143 rfl rfl h
  · have h := h.2 c
    refine p_push (cc3 c131_142) ?_
    exact p_lc (ls' := [(0, .ref m)]) c131_143 rfl rfl h
theorem B131_143 {ev : xV} {Q : Option Value → xM → Prop} {m : Nat} {Φ : (Nat → Nat → Int32) → xM} (hΦ : MLaw m Φ) {μ : Nat → Nat → Int32} {s0 s1 : Int32} (h : vp_in s1 5 ∧ ((((μ 0 46) + 1) = (μ 0 1)) → Q (some (.int 1)) (Φ (U (U μ 6 s1.toNatClampNeg (vp_nar .boolean s0)) 0 46 ((μ 0 46) + 1)))) ∧ (¬ (((μ 0 46) + 1) = (μ 0 1)) → Q (some (.int 0)) (Φ (U (U μ 6 s1.toNatClampNeg (vp_nar .boolean s0)) 0 46 ((μ 0 46) + 1))))) : wpE (xT 131) ev Q (143, [(0, .ref m)], [.int s0, .int s1, .ref (m + 6)], Φ μ) := by
  obtain ⟨g, h⟩ := h
  refine pm_asti hΦ (c := 6) (n := 5) (cct c131_143 rfl) (by decide) rfl rfl rfl g ?_
  refine p_ald (cc3 c131_144) rfl ?_
  refine p_dup (cc3 c131_145) rfl ?_
  refine pm_geti hΦ (v := μ 0 46) (cc3 c131_146) rfl ?_
  refine p_push (cc3 c131_149) ?_
  refine p_bin (cc3 c131_150) ?_
  refine pm_puti hΦ (cc3 c131_151) ?_
  refine p_ald (cc3 c131_154) rfl ?_
  refine pm_geti hΦ (v := (μ 0 46) + 1) (cc3 c131_155) rfl ?_
  refine p_ald (cc3 c131_158) rfl ?_
  refine pm_geti hΦ (v := μ 0 1) (cc3 c131_159) rfl ?_
  refine p_icmp (cc3 c131_162) (fun c => ?_) (fun c => ?_)
  · have h := h.1 c
    refine p_push (cc3 c131_165) ?_
    refine p_goto (cc3 c131_166) ?_
    refine p_lc (ls' := []) c131_170 rfl rfl ?_
    exact p_ri (cct c131_170 rfl) (by decide) h
  · have h := h.2 c
    refine p_push (cc3 c131_169) ?_
    refine p_lc (ls' := []) c131_170 rfl rfl ?_
    exact p_ri (cct c131_170 rfl) (by decide) h
theorem B132_0 {ev : xV} {Q : Option Value → xM → Prop} {m : Nat} {Φ : (Nat → Nat → Int32) → xM} (hΦ : MLaw m Φ) {μ : Nat → Nat → Int32} {x1 : Int32} (h : (((μ 0 46) = (μ 0 1)) → Q (some (.int 0)) (Φ μ)) ∧ (¬ ((μ 0 46) = (μ 0 1)) → vp_in (μ 0 46) 160 ∧ (((μ 1 (μ 0 46).toNatClampNeg) < 97) → Q (some (.int 0)) (Φ μ)) ∧ (¬ ((μ 1 (μ 0 46).toNatClampNeg) < 97) → vp_in (μ 0 46) 160 ∧ (((μ 1 (μ 0 46).toNatClampNeg) ≤ 104) → vp_in x1 5 ∧ vp_in (μ 0 46) 160 ∧ vp_in ((10 * x1) + (μ 2 x1.toNatClampNeg)) 50 ∧ (∃ r μ', ev 133 [.ref m, .int 1] (Φ (U (U μ 4 (((10 * x1) + (μ 2 x1.toNatClampNeg)).toNatClampNeg) ((μ 1 (μ 0 46).toNatClampNeg) - 97)) 0 46 ((μ 0 46) + 1))) (some (.int r)) (Φ μ') ∧ wpE (xT 132) ev Q (86, [(2, .int ((10 * x1) + (μ 2 x1.toNatClampNeg))), (0, .ref m), (1, .int x1)], [.int r], Φ μ'))) ∧ (¬ ((μ 1 (μ 0 46).toNatClampNeg) ≤ 104) → Q (some (.int 0)) (Φ μ))))) : wpE (xT 132) ev Q (0, [(0, .ref m), (1, .int x1)], [], Φ μ) := by
  refine p_ald (cc3 c132_0) rfl ?_
  refine pm_geti hΦ (v := μ 0 46) (cc3 c132_1) rfl ?_
  refine p_ald (cc3 c132_4) rfl ?_
  refine pm_geti hΦ (v := μ 0 1) (cc3 c132_5) rfl ?_
  refine p_icmp (cc3 c132_8) (fun c => ?_) (fun c => ?_)
  · have h := h.1 c
    refine p_lc (ls' := []) c132_39 rfl rfl ?_
    refine p_push (cct c132_39 rfl) ?_
    exact p_ri (cc3 c132_40) (by decide) h
  · have h := h.2 c
    refine p_ald (cc3 c132_11) rfl ?_
    refine pm_getp hΦ (cc3 c132_12) (c := 1) rfl (by decide) ?_
    refine p_ald (cc3 c132_15) rfl ?_
    refine pm_geti hΦ (v := μ 0 46) (cc3 c132_16) rfl ?_
    obtain ⟨g, h⟩ := h
    refine pm_aldi hΦ (c := 1) (n := 160) (cc3 c132_19) (by decide) rfl rfl rfl g rfl ?_
    refine p_push (cc3 c132_20) ?_
    refine p_icmp (cc3 c132_22) (fun c => ?_) (fun c => ?_)
    · have h := h.1 c
      refine p_lc (ls' := []) c132_39 rfl rfl ?_
      refine p_push (cct c132_39 rfl) ?_
      exact p_ri (cc3 c132_40) (by decide) h
    · have h := h.2 c
      refine p_ald (cc3 c132_25) rfl ?_
      refine pm_getp hΦ (cc3 c132_26) (c := 1) rfl (by decide) ?_
      refine p_ald (cc3 c132_29) rfl ?_
      refine pm_geti hΦ (v := μ 0 46) (cc3 c132_30) rfl ?_
      obtain ⟨g, h⟩ := h
      refine pm_aldi hΦ (c := 1) (n := 160) (cc3 c132_33) (by decide) rfl rfl rfl g rfl ?_
      refine p_push (cc3 c132_34) ?_
      refine p_icmp (cc3 c132_36) (fun c => ?_) (fun c => ?_)
      · have h := h.1 c
        refine p_push (cc3 c132_41) ?_
        refine p_ild (cc3 c132_43) rfl ?_
        refine p_bin (cc3 c132_44) ?_
        refine p_ald (cc3 c132_45) rfl ?_
        refine pm_getp hΦ (cc3 c132_46) (c := 2) rfl (by decide) ?_
        refine p_ild (cc3 c132_49) rfl ?_
        obtain ⟨g, h⟩ := h
        refine pm_aldi hΦ (c := 2) (n := 5) (cc3 c132_50) (by decide) rfl rfl rfl g rfl ?_
        refine p_bin (cc3 c132_51) ?_
        refine p_ist (ls' := [(2, .int ((10 * x1) + (μ 2 x1.toNatClampNeg))), (0, .ref m), (1, .int x1)]) (cc3 c132_52) (by decide) rfl ?_
        refine p_ald (cc3 c132_53) rfl ?_
        refine pm_getp hΦ (cc3 c132_54) (c := 4) rfl (by decide) ?_
        refine p_ild (cc3 c132_57) rfl ?_
        refine p_ald (cc3 c132_58) rfl ?_
        refine pm_getp hΦ (cc3 c132_59) (c := 1) rfl (by decide) ?_
        refine p_ald (cc3 c132_62) rfl ?_
        refine pm_geti hΦ (v := μ 0 46) (cc3 c132_63) rfl ?_
        obtain ⟨g, h⟩ := h
        refine pm_aldi hΦ (c := 1) (n := 160) (cc3 c132_66) (by decide) rfl rfl rfl g rfl ?_
        refine p_push (cc3 c132_67) ?_
        refine p_bin (cc3 c132_69) ?_
        obtain ⟨g, h⟩ := h
        refine pm_asti hΦ (c := 4) (n := 50) (cc3 c132_70) (by decide) rfl rfl rfl g ?_
        refine p_ald (cc3 c132_71) rfl ?_
        refine p_dup (cc3 c132_72) rfl ?_
        refine pm_geti hΦ (v := μ 0 46) (cc3 c132_73) rfl ?_
        refine p_push (cc3 c132_76) ?_
        refine p_bin (cc3 c132_77) ?_
        refine pm_puti hΦ (cc3 c132_78) ?_
        refine p_ald (cc3 c132_81) rfl ?_
        refine p_push (cc3 c132_82) ?_
        obtain ⟨r, μ', he, h⟩ := h
        exact p_callV (cc3 c132_83) (Nat.le_of_ble_eq_true rfl) rfl rfl (Nat.le_of_ble_eq_true rfl) (ml_kd hΦ) he h
      · have h := h.2 c
        refine p_lc (ls' := []) c132_39 rfl rfl ?_
        refine p_push (cct c132_39 rfl) ?_
        exact p_ri (cc3 c132_40) (by decide) h
theorem B132_86 {ev : xV} {Q : Option Value → xM → Prop} {m : Nat} {Φ : (Nat → Nat → Int32) → xM} (hΦ : MLaw m Φ) {μ : Nat → Nat → Int32} {x2 x1 s0 : Int32} (h : ((s0 = 0) → Q (some (.int 0)) (Φ μ)) ∧ (¬ (s0 = 0) → wpE (xT 132) ev Q (96, [(0, .ref m), (1, .int x1), (2, .int x2), (3, .int 0), (4, .int 0)], [], Φ μ))) : wpE (xT 132) ev Q (86, [(2, .int x2), (0, .ref m), (1, .int x1)], [.int s0], Φ μ) := by
  refine p_if (cc3 c132_86) (fun c => ?_) (fun c => ?_)
  · have h := h.1 c
    refine p_push (cc3 c132_89) ?_
    exact p_ri (cc3 c132_90) (by decide) h
  · have h := h.2 c
    refine p_push (cc3 c132_91) ?_
    refine p_ist (ls' := [(3, .int 0), (2, .int x2), (0, .ref m), (1, .int x1)]) (cc3 c132_92) (by decide) rfl ?_
    refine p_push (cc3 c132_93) ?_
    refine p_ist (ls' := [(4, .int 0), (3, .int 0), (2, .int x2), (0, .ref m), (1, .int x1)]) (cc3 c132_94) (by decide) rfl ?_
    exact p_lc (ls' := [(0, .ref m), (1, .int x1), (2, .int x2), (3, .int 0), (4, .int 0)]) c132_96 rfl rfl h
theorem B132_96 {ev : xV} {Q : Option Value → xM → Prop} {m : Nat} {Φ : (Nat → Nat → Int32) → xM} (hΦ : MLaw m Φ) {μ : Nat → Nat → Int32} {x1 x2 x3 x4 : Int32} (h : ((3 ≤ x4) → vp_in x2 50 ∧ vp_in x1 5 ∧ vp_in x1 5 ∧ Q (some (.int 1)) (Φ (U (U μ 5 x2.toNatClampNeg x3) 2 x1.toNatClampNeg (((U μ 5 x2.toNatClampNeg x3) 2 x1.toNatClampNeg) + 1)))) ∧ (¬ (3 ≤ x4) → (∃ r μ', ev 133 [.ref m, .int 0] (Φ μ) (some (.int r)) (Φ μ') ∧ wpE (xT 132) ev Q (107, [(0, .ref m), (1, .int x1), (2, .int x2), (3, .int x3), (4, .int x4)], [.int r], Φ μ')))) : wpE (xT 132) ev Q (96, [(0, .ref m), (1, .int x1), (2, .int x2), (3, .int x3), (4, .int x4)], [], Φ μ) := by
  refine p_ild (cct c132_96 rfl) rfl ?_
  refine p_push (cc3 c132_98) ?_
  refine p_icmp (cc3 c132_99) (fun c => ?_) (fun c => ?_)
  · have h := h.1 c
    refine p_lc (ls' := [(0, .ref m), (1, .int x1), (2, .int x2), (3, .int x3)]) c132_144 rfl rfl ?_
    refine p_ald (cct c132_144 rfl) rfl ?_
    refine pm_getp hΦ (cc3 c132_145) (c := 5) rfl (by decide) ?_
    refine p_ild (cc3 c132_148) rfl ?_
    refine p_ild (cc3 c132_149) rfl ?_
    obtain ⟨g, h⟩ := h
    refine pm_asti hΦ (c := 5) (n := 50) (cc3 c132_150) (by decide) rfl rfl rfl g ?_
    refine p_ald (cc3 c132_151) rfl ?_
    refine pm_getp hΦ (cc3 c132_152) (c := 2) rfl (by decide) ?_
    refine p_ild (cc3 c132_155) rfl ?_
    refine p_dup2 (cc3 c132_156) rfl rfl ?_
    obtain ⟨g, h⟩ := h
    refine pm_aldi hΦ (c := 2) (n := 5) (cc3 c132_157) (by decide) rfl rfl rfl g rfl ?_
    refine p_push (cc3 c132_158) ?_
    refine p_bin (cc3 c132_159) ?_
    obtain ⟨g, h⟩ := h
    refine pm_asti hΦ (c := 2) (n := 5) (cc3 c132_160) (by decide) rfl rfl rfl g ?_
    refine p_push (cc3 c132_161) ?_
    exact p_ri (cc3 c132_162) (by decide) h
  · have h := h.2 c
    refine p_ald (cc3 c132_102) rfl ?_
    refine p_push (cc3 c132_103) ?_
    obtain ⟨r, μ', he, h⟩ := h
    exact p_callV (cc3 c132_104) (Nat.le_of_ble_eq_true rfl) rfl rfl (Nat.le_of_ble_eq_true rfl) (ml_kd hΦ) he h
theorem B132_107 {ev : xV} {Q : Option Value → xM → Prop} {m : Nat} {Φ : (Nat → Nat → Int32) → xM} (hΦ : MLaw m Φ) {μ : Nat → Nat → Int32} {x1 x2 x3 x4 s0 : Int32} (h : ((s0 = 0) → vp_in x2 50 ∧ vp_in x1 5 ∧ vp_in x1 5 ∧ Q (some (.int 1)) (Φ (U (U μ 5 x2.toNatClampNeg x3) 2 x1.toNatClampNeg (((U μ 5 x2.toNatClampNeg x3) 2 x1.toNatClampNeg) + 1)))) ∧ (¬ (s0 = 0) → vp_in (μ 0 46) 160 ∧ wpE (xT 132) ev Q (96, [(0, .ref m), (1, .int x1), (2, .int x2), (3, .int (((10 * x3) + (μ 1 (μ 0 46).toNatClampNeg)) - 48)), (4, .int (x4 + 1))], [], Φ (U μ 0 46 ((μ 0 46) + 1))))) : wpE (xT 132) ev Q (107, [(0, .ref m), (1, .int x1), (2, .int x2), (3, .int x3), (4, .int x4)], [.int s0], Φ μ) := by
  refine p_if (cc3 c132_107) (fun c => ?_) (fun c => ?_)
  · have h := h.1 c
    refine p_lc (ls' := [(0, .ref m), (1, .int x1), (2, .int x2), (3, .int x3)]) c132_144 rfl rfl ?_
    refine p_ald (cct c132_144 rfl) rfl ?_
    refine pm_getp hΦ (cc3 c132_145) (c := 5) rfl (by decide) ?_
    refine p_ild (cc3 c132_148) rfl ?_
    refine p_ild (cc3 c132_149) rfl ?_
    obtain ⟨g, h⟩ := h
    refine pm_asti hΦ (c := 5) (n := 50) (cc3 c132_150) (by decide) rfl rfl rfl g ?_
    refine p_ald (cc3 c132_151) rfl ?_
    refine pm_getp hΦ (cc3 c132_152) (c := 2) rfl (by decide) ?_
    refine p_ild (cc3 c132_155) rfl ?_
    refine p_dup2 (cc3 c132_156) rfl rfl ?_
    obtain ⟨g, h⟩ := h
    refine pm_aldi hΦ (c := 2) (n := 5) (cc3 c132_157) (by decide) rfl rfl rfl g rfl ?_
    refine p_push (cc3 c132_158) ?_
    refine p_bin (cc3 c132_159) ?_
    obtain ⟨g, h⟩ := h
    refine pm_asti hΦ (c := 2) (n := 5) (cc3 c132_160) (by decide) rfl rfl rfl g ?_
    refine p_push (cc3 c132_161) ?_
    exact p_ri (cc3 c132_162) (by decide) h
  · have h := h.2 c
    refine p_push (cc3 c132_110) ?_
    refine p_ild (cc3 c132_112) rfl ?_
    refine p_bin (cc3 c132_113) ?_
    refine p_ald (cc3 c132_114) rfl ?_
    refine pm_getp hΦ (cc3 c132_115) (c := 1) rfl (by decide) ?_
    refine p_ald (cc3 c132_118) rfl ?_
    refine pm_geti hΦ (v := μ 0 46) (cc3 c132_119) rfl ?_
    obtain ⟨g, h⟩ := h
    refine pm_aldi hΦ (c := 1) (n := 160) (cc3 c132_122) (by decide) rfl rfl rfl g rfl ?_
    refine p_bin (cc3 c132_123) ?_
    refine p_push (cc3 c132_124) ?_
    refine p_bin (cc3 c132_126) ?_
    refine p_ist (ls' := [(3, .int (((10 * x3) + (μ 1 (μ 0 46).toNatClampNeg)) - 48)), (0, .ref m), (1, .int x1), (2, .int x2), (4, .int x4)]) (cc3 c132_127) (by decide) rfl ?_
    refine p_ald (cc3 c132_128) rfl ?_
    refine p_dup (cc3 c132_129) rfl ?_
    refine pm_geti hΦ (v := μ 0 46) (cc3 c132_130) rfl ?_
    refine p_push (cc3 c132_133) ?_
    refine p_bin (cc3 c132_134) ?_
    refine pm_puti hΦ (cc3 c132_135) ?_
    refine p_iinc (y := x4 + 1) (ls' := [(4, .int (x4 + 1)), (3, .int (((10 * x3) + (μ 1 (μ 0 46).toNatClampNeg)) - 48)), (0, .ref m), (1, .int x1), (2, .int x2)]) (cc3 c132_138) (by decide) rfl rfl rfl ?_
    refine p_goto (cc3 c132_141) ?_
    exact p_lc (ls' := [(0, .ref m), (1, .int x1), (2, .int x2), (3, .int (((10 * x3) + (μ 1 (μ 0 46).toNatClampNeg)) - 48)), (4, .int (x4 + 1))]) c132_96 rfl rfl h
theorem B133_0 {ev : xV} {Q : Option Value → xM → Prop} {m : Nat} {Φ : (Nat → Nat → Int32) → xM} (hΦ : MLaw m Φ) {μ : Nat → Nat → Int32} {x1 : Int32} (h : (((μ 0 1) ≤ (μ 0 46)) → Q (some (.int 0)) (Φ μ)) ∧ (¬ ((μ 0 1) ≤ (μ 0 46)) → vp_in (μ 0 46) 160 ∧ (((μ 1 (μ 0 46).toNatClampNeg) < (48 + x1)) → Q (some (.int 0)) (Φ μ)) ∧ (¬ ((μ 1 (μ 0 46).toNatClampNeg) < (48 + x1)) → vp_in (μ 0 46) 160 ∧ ((57 < (μ 1 (μ 0 46).toNatClampNeg)) → Q (some (.int 0)) (Φ μ)) ∧ (¬ (57 < (μ 1 (μ 0 46).toNatClampNeg)) → Q (some (.int 1)) (Φ μ))))) : wpE (xT 133) ev Q (0, [(0, .ref m), (1, .int x1)], [], Φ μ) := by
  refine p_ald (cc3 c133_0) rfl ?_
  refine pm_geti hΦ (v := μ 0 46) (cc3 c133_1) rfl ?_
  refine p_ald (cc3 c133_4) rfl ?_
  refine pm_geti hΦ (v := μ 0 1) (cc3 c133_5) rfl ?_
  refine p_icmp (cc3 c133_8) (fun c => ?_) (fun c => ?_)
  · have h := h.1 c
    refine p_lc (ls' := []) c133_45 rfl rfl ?_
    refine p_push (cct c133_45 rfl) ?_
    exact p_ri (cct c133_46 rfl) (by decide) h
  · have h := h.2 c
    refine p_ald (cc3 c133_11) rfl ?_
    refine pm_getp hΦ (cc3 c133_12) (c := 1) rfl (by decide) ?_
    refine p_ald (cc3 c133_15) rfl ?_
    refine pm_geti hΦ (v := μ 0 46) (cc3 c133_16) rfl ?_
    obtain ⟨g, h⟩ := h
    refine pm_aldi hΦ (c := 1) (n := 160) (cc3 c133_19) (by decide) rfl rfl rfl g rfl ?_
    refine p_push (cc3 c133_20) ?_
    refine p_ild (cc3 c133_22) rfl ?_
    refine p_bin (cc3 c133_23) ?_
    refine p_icmp (cc3 c133_24) (fun c => ?_) (fun c => ?_)
    · have h := h.1 c
      refine p_lc (ls' := []) c133_45 rfl rfl ?_
      refine p_push (cct c133_45 rfl) ?_
      exact p_ri (cct c133_46 rfl) (by decide) h
    · have h := h.2 c
      refine p_ald (cc3 c133_27) rfl ?_
      refine pm_getp hΦ (cc3 c133_28) (c := 1) rfl (by decide) ?_
      refine p_ald (cc3 c133_31) rfl ?_
      refine pm_geti hΦ (v := μ 0 46) (cc3 c133_32) rfl ?_
      obtain ⟨g, h⟩ := h
      refine pm_aldi hΦ (c := 1) (n := 160) (cc3 c133_35) (by decide) rfl rfl rfl g rfl ?_
      refine p_push (cc3 c133_36) ?_
      refine p_icmp (cc3 c133_38) (fun c => ?_) (fun c => ?_)
      · have h := h.1 c
        refine p_lc (ls' := []) c133_45 rfl rfl ?_
        refine p_push (cct c133_45 rfl) ?_
        exact p_ri (cct c133_46 rfl) (by decide) h
      · have h := h.2 c
        refine p_push (cc3 c133_41) ?_
        refine p_goto (cc3 c133_42) ?_
        refine p_lc (ls' := []) c133_46 rfl rfl ?_
        exact p_ri (cct c133_46 rfl) (by decide) h
theorem B134_0 {ev : xV} {Q : Option Value → xM → Prop} {m : Nat} {Φ : (Nat → Nat → Int32) → xM} (hΦ : MLaw m Φ) {μ : Nat → Nat → Int32} {x1 x2 : Int32} (h : (∃ r μ', ev 135 [.ref m, .int x1] (Φ μ) (some (.int r)) (Φ μ') ∧ wpE (xT 134) ev Q (5, [(0, .ref m), (1, .int x1), (2, .int x2)], [.int r], Φ μ'))) : wpE (xT 134) ev Q (0, [(0, .ref m), (1, .int x1), (2, .int x2)], [], Φ μ) := by
  refine p_ald (cc3 c134_0) rfl ?_
  refine p_ild (cc3 c134_1) rfl ?_
  obtain ⟨r, μ', he, h⟩ := h
  exact p_callV (cc3 c134_2) (Nat.le_of_ble_eq_true rfl) rfl rfl (Nat.le_of_ble_eq_true rfl) (ml_kd hΦ) he h
theorem B134_5 {ev : xV} {Q : Option Value → xM → Prop} {m : Nat} {Φ : (Nat → Nat → Int32) → xM} (hΦ : MLaw m Φ) {μ : Nat → Nat → Int32} {x1 x2 s0 : Int32} (h : ((s0 = 0) → Q (some (.int ((-2)))) (Φ μ)) ∧ (¬ (s0 = 0) → (∃ r μ', ev 129 [.ref m, .int x2, .int 0, .int 2] (Φ μ) (some (.int r)) (Φ μ') ∧ wpE (xT 134) ev Q (15, [(0, .ref m), (1, .int x1), (2, .int x2)], [.int r], Φ μ')))) : wpE (xT 134) ev Q (5, [(0, .ref m), (1, .int x1), (2, .int x2)], [.int s0], Φ μ) := by
  refine p_if (cc3 c134_5) (fun c => ?_) (fun c => ?_)
  · have h := h.1 c
    refine p_lc (ls' := []) c134_18 rfl rfl ?_
    refine p_push (cct c134_18 rfl) ?_
    exact p_ri (cc3 c134_20) trivial h
  · have h := h.2 c
    refine p_ald (cc3 c134_8) rfl ?_
    refine p_ild (cc3 c134_9) rfl ?_
    refine p_push (cc3 c134_10) ?_
    refine p_push (cc3 c134_11) ?_
    obtain ⟨r, μ', he, h⟩ := h
    exact p_callV (cc3 c134_12) (Nat.le_of_ble_eq_true rfl) rfl rfl (Nat.le_of_ble_eq_true rfl) (ml_kd hΦ) he h
theorem B134_15 {ev : xV} {Q : Option Value → xM → Prop} {m : Nat} {Φ : (Nat → Nat → Int32) → xM} (hΦ : MLaw m Φ) {μ : Nat → Nat → Int32} {x1 x2 s0 : Int32} (h : ((s0 = 0) → Q (some (.int ((-2)))) (Φ μ)) ∧ (¬ (s0 = 0) → ((x2 = 0) → vp_in x1 5 ∧ Q (some (.int (μ 3 x1.toNatClampNeg))) (Φ μ)) ∧ (¬ (x2 = 0) → ((x2 = 1) → vp_in x1 5 ∧ Q (some (.int (μ 2 x1.toNatClampNeg))) (Φ μ)) ∧ (¬ (x2 = 1) → vp_in x1 5 ∧ (((μ 6 x1.toNatClampNeg) = 0) → Q (some (.int 0)) (Φ μ)) ∧ (¬ ((μ 6 x1.toNatClampNeg) = 0) → Q (some (.int 1)) (Φ μ)))))) : wpE (xT 134) ev Q (15, [(0, .ref m), (1, .int x1), (2, .int x2)], [.int s0], Φ μ) := by
  refine p_if (cc3 c134_15) (fun c => ?_) (fun c => ?_)
  · have h := h.1 c
    refine p_lc (ls' := []) c134_18 rfl rfl ?_
    refine p_push (cct c134_18 rfl) ?_
    exact p_ri (cc3 c134_20) trivial h
  · have h := h.2 c
    refine p_ild (cc3 c134_21) rfl ?_
    refine p_if (cc3 c134_22) (fun c => ?_) (fun c => ?_)
    · have h := h.1 c
      refine p_ald (cc3 c134_25) rfl ?_
      refine pm_getp hΦ (cc3 c134_26) (c := 3) rfl (by decide) ?_
      refine p_ild (cc3 c134_29) rfl ?_
      obtain ⟨g, h⟩ := h
      refine pm_aldi hΦ (c := 3) (n := 5) (cc3 c134_30) (by decide) rfl rfl rfl g rfl ?_
      refine p_goto (cc3 c134_31) ?_
      refine p_lc (ls' := []) c134_62 rfl rfl ?_
      exact p_ri (cct c134_62 rfl) trivial h
    · have h := h.2 c
      refine p_ild (cc3 c134_34) rfl ?_
      refine p_push (cc3 c134_35) ?_
      refine p_icmp (cc3 c134_36) (fun c => ?_) (fun c => ?_)
      · have h := h.1 c
        refine p_ald (cc3 c134_39) rfl ?_
        refine pm_getp hΦ (cc3 c134_40) (c := 2) rfl (by decide) ?_
        refine p_ild (cc3 c134_43) rfl ?_
        obtain ⟨g, h⟩ := h
        refine pm_aldi hΦ (c := 2) (n := 5) (cc3 c134_44) (by decide) rfl rfl rfl g rfl ?_
        refine p_goto (cc3 c134_45) ?_
        refine p_lc (ls' := []) c134_62 rfl rfl ?_
        exact p_ri (cct c134_62 rfl) trivial h
      · have h := h.2 c
        refine p_ald (cc3 c134_48) rfl ?_
        refine pm_getp hΦ (cc3 c134_49) (c := 6) rfl (by decide) ?_
        refine p_ild (cc3 c134_52) rfl ?_
        obtain ⟨g, h⟩ := h
        refine pm_aldi hΦ (c := 6) (n := 5) (cc3 c134_53) (by decide) rfl rfl rfl g rfl ?_
        refine p_if (cc3 c134_54) (fun c => ?_) (fun c => ?_)
        · have h := h.1 c
          refine p_push (cc3 c134_61) ?_
          refine p_lc (ls' := []) c134_62 rfl rfl ?_
          exact p_ri (cct c134_62 rfl) trivial h
        · have h := h.2 c
          refine p_push (cc3 c134_57) ?_
          refine p_goto (cc3 c134_58) ?_
          refine p_lc (ls' := []) c134_62 rfl rfl ?_
          exact p_ri (cct c134_62 rfl) trivial h
theorem B135_0 {ev : xV} {Q : Option Value → xM → Prop} {m : Nat} {Φ : (Nat → Nat → Int32) → xM} (hΦ : MLaw m Φ) {μ : Nat → Nat → Int32} {x1 : Int32} (h : (∃ r μ', ev 129 [.ref m, .int x1, .int 0, .int ((μ 0 2) - 1)] (Φ μ) (some (.int r)) (Φ μ') ∧ wpE (xT 135) ev Q (12, [(0, .ref m), (1, .int x1)], [.int r], Φ μ'))) : wpE (xT 135) ev Q (0, [(0, .ref m), (1, .int x1)], [], Φ μ) := by
  refine p_ald (cc3 c135_0) rfl ?_
  refine p_ild (cc3 c135_1) rfl ?_
  refine p_push (cc3 c135_2) ?_
  refine p_ald (cc3 c135_3) rfl ?_
  refine pm_geti hΦ (v := μ 0 2) (cc3 c135_4) rfl ?_
  refine p_push (cc3 c135_7) ?_
  refine p_bin (cc3 c135_8) ?_
  obtain ⟨r, μ', he, h⟩ := h
  exact p_callV (cc3 c135_9) (Nat.le_of_ble_eq_true rfl) rfl rfl (Nat.le_of_ble_eq_true rfl) (ml_kd hΦ) he h
theorem B135_12 {ev : xV} {Q : Option Value → xM → Prop} {m : Nat} {Φ : (Nat → Nat → Int32) → xM} (hΦ : MLaw m Φ) {μ : Nat → Nat → Int32} {x1 s0 : Int32} (h : ((s0 = 0 ∨ s0 = 1) ∧ Q (some (.int s0)) (Φ μ))) : wpE (xT 135) ev Q (12, [(0, .ref m), (1, .int x1)], [.int s0], Φ μ) := by
  exact p_ri (cc3 c135_12) h.1 h.2
theorem B136_0 {ev : xV} {Q : Option Value → xM → Prop} {m : Nat} {Φ : (Nat → Nat → Int32) → xM} (hΦ : MLaw m Φ) {μ : Nat → Nat → Int32} {x1 x2 x3 : Int32} (h : (∃ r μ', ev 135 [.ref m, .int x1] (Φ μ) (some (.int r)) (Φ μ') ∧ wpE (xT 136) ev Q (5, [(0, .ref m), (1, .int x1), (2, .int x2), (3, .int x3)], [.int r], Φ μ'))) : wpE (xT 136) ev Q (0, [(0, .ref m), (1, .int x1), (2, .int x2), (3, .int x3)], [], Φ μ) := by
  refine p_ald (cc3 c136_0) rfl ?_
  refine p_ild (cc3 c136_1) rfl ?_
  obtain ⟨r, μ', he, h⟩ := h
  exact p_callV (cc3 c136_2) (Nat.le_of_ble_eq_true rfl) rfl rfl (Nat.le_of_ble_eq_true rfl) (ml_kd hΦ) he h
theorem B136_5 {ev : xV} {Q : Option Value → xM → Prop} {m : Nat} {Φ : (Nat → Nat → Int32) → xM} (hΦ : MLaw m Φ) {μ : Nat → Nat → Int32} {x1 x2 x3 s0 : Int32} (h : ((s0 = 0) → Q (some (.int ((-2)))) (Φ μ)) ∧ (¬ (s0 = 0) → vp_in x1 5 ∧ (∃ r μ', ev 129 [.ref m, .int x2, .int 0, .int ((μ 2 x1.toNatClampNeg) - 1)] (Φ μ) (some (.int r)) (Φ μ') ∧ wpE (xT 136) ev Q (22, [(0, .ref m), (1, .int x1), (2, .int x2), (3, .int x3)], [.int r], Φ μ')))) : wpE (xT 136) ev Q (5, [(0, .ref m), (1, .int x1), (2, .int x2), (3, .int x3)], [.int s0], Φ μ) := by
  refine p_if (cc3 c136_5) (fun c => ?_) (fun c => ?_)
  · have h := h.1 c
    refine p_lc (ls' := []) c136_35 rfl rfl ?_
    refine p_push (cct c136_35 rfl) ?_
    exact p_ri (cc3 c136_37) trivial h
  · have h := h.2 c
    refine p_ald (cc3 c136_8) rfl ?_
    refine p_ild (cc3 c136_9) rfl ?_
    refine p_push (cc3 c136_10) ?_
    refine p_ald (cc3 c136_11) rfl ?_
    refine pm_getp hΦ (cc3 c136_12) (c := 2) rfl (by decide) ?_
    refine p_ild (cc3 c136_15) rfl ?_
    obtain ⟨g, h⟩ := h
    refine pm_aldi hΦ (c := 2) (n := 5) (cc3 c136_16) (by decide) rfl rfl rfl g rfl ?_
    refine p_push (cc3 c136_17) ?_
    refine p_bin (cc3 c136_18) ?_
    obtain ⟨r, μ', he, h⟩ := h
    exact p_callV (cc3 c136_19) (Nat.le_of_ble_eq_true rfl) rfl rfl (Nat.le_of_ble_eq_true rfl) (ml_kd hΦ) he h
theorem B136_22 {ev : xV} {Q : Option Value → xM → Prop} {m : Nat} {Φ : (Nat → Nat → Int32) → xM} (hΦ : MLaw m Φ) {μ : Nat → Nat → Int32} {x1 x2 x3 s0 : Int32} (h : ((s0 = 0) → Q (some (.int ((-2)))) (Φ μ)) ∧ (¬ (s0 = 0) → (∃ r μ', ev 129 [.ref m, .int x3, .int 0, .int 2] (Φ μ) (some (.int r)) (Φ μ') ∧ wpE (xT 136) ev Q (32, [(0, .ref m), (1, .int x1), (2, .int x2), (3, .int x3)], [.int r], Φ μ')))) : wpE (xT 136) ev Q (22, [(0, .ref m), (1, .int x1), (2, .int x2), (3, .int x3)], [.int s0], Φ μ) := by
  refine p_if (cc3 c136_22) (fun c => ?_) (fun c => ?_)
  · have h := h.1 c
    refine p_lc (ls' := []) c136_35 rfl rfl ?_
    refine p_push (cct c136_35 rfl) ?_
    exact p_ri (cc3 c136_37) trivial h
  · have h := h.2 c
    refine p_ald (cc3 c136_25) rfl ?_
    refine p_ild (cc3 c136_26) rfl ?_
    refine p_push (cc3 c136_27) ?_
    refine p_push (cc3 c136_28) ?_
    obtain ⟨r, μ', he, h⟩ := h
    exact p_callV (cc3 c136_29) (Nat.le_of_ble_eq_true rfl) rfl rfl (Nat.le_of_ble_eq_true rfl) (ml_kd hΦ) he h
theorem B136_32 {ev : xV} {Q : Option Value → xM → Prop} {m : Nat} {Φ : (Nat → Nat → Int32) → xM} (hΦ : MLaw m Φ) {μ : Nat → Nat → Int32} {x1 x2 x3 s0 : Int32} (h : ((s0 = 0) → Q (some (.int ((-2)))) (Φ μ)) ∧ (¬ (s0 = 0) → ((x3 = 0) → vp_in ((10 * x1) + x2) 50 ∧ Q (some (.int (μ 4 ((10 * x1) + x2).toNatClampNeg))) (Φ μ)) ∧ (¬ (x3 = 0) → ((x3 = 1) → vp_in ((10 * x1) + x2) 50 ∧ Q (some (.int (μ 5 ((10 * x1) + x2).toNatClampNeg))) (Φ μ)) ∧ (¬ (x3 = 1) → (∃ r μ', ev 137 [.ref m, .int x1, .int x2] (Φ μ) (some (.int r)) (Φ μ') ∧ wpE (xT 136) ev Q (81, [], [.int r], Φ μ')))))) : wpE (xT 136) ev Q (32, [(0, .ref m), (1, .int x1), (2, .int x2), (3, .int x3)], [.int s0], Φ μ) := by
  refine p_if (cc3 c136_32) (fun c => ?_) (fun c => ?_)
  · have h := h.1 c
    refine p_lc (ls' := []) c136_35 rfl rfl ?_
    refine p_push (cct c136_35 rfl) ?_
    exact p_ri (cc3 c136_37) trivial h
  · have h := h.2 c
    refine p_ild (cc3 c136_38) rfl ?_
    refine p_if (cc3 c136_39) (fun c => ?_) (fun c => ?_)
    · have h := h.1 c
      refine p_ald (cc3 c136_42) rfl ?_
      refine pm_getp hΦ (cc3 c136_43) (c := 4) rfl (by decide) ?_
      refine p_push (cc3 c136_46) ?_
      refine p_ild (cc3 c136_48) rfl ?_
      refine p_bin (cc3 c136_49) ?_
      refine p_ild (cc3 c136_50) rfl ?_
      refine p_bin (cc3 c136_51) ?_
      obtain ⟨g, h⟩ := h
      refine pm_aldi hΦ (c := 4) (n := 50) (cc3 c136_52) (by decide) rfl rfl rfl g rfl ?_
      refine p_goto (cc3 c136_53) ?_
      refine p_lc (ls' := []) c136_81 rfl rfl ?_
      exact p_ri (cct c136_81 rfl) trivial h
    · have h := h.2 c
      refine p_ild (cc3 c136_56) rfl ?_
      refine p_push (cc3 c136_57) ?_
      refine p_icmp (cc3 c136_58) (fun c => ?_) (fun c => ?_)
      · have h := h.1 c
        refine p_ald (cc3 c136_61) rfl ?_
        refine pm_getp hΦ (cc3 c136_62) (c := 5) rfl (by decide) ?_
        refine p_push (cc3 c136_65) ?_
        refine p_ild (cc3 c136_67) rfl ?_
        refine p_bin (cc3 c136_68) ?_
        refine p_ild (cc3 c136_69) rfl ?_
        refine p_bin (cc3 c136_70) ?_
        obtain ⟨g, h⟩ := h
        refine pm_aldi hΦ (c := 5) (n := 50) (cc3 c136_71) (by decide) rfl rfl rfl g rfl ?_
        refine p_goto (cc3 c136_72) ?_
        refine p_lc (ls' := []) c136_81 rfl rfl ?_
        exact p_ri (cct c136_81 rfl) trivial h
      · have h := h.2 c
        refine p_ald (cc3 c136_75) rfl ?_
        refine p_ild (cc3 c136_76) rfl ?_
        refine p_ild (cc3 c136_77) rfl ?_
        obtain ⟨r, μ', he, h⟩ := h
        exact p_callV (cc3 c136_78) (Nat.le_of_ble_eq_true rfl) rfl rfl (Nat.le_of_ble_eq_true rfl) (ml_kd hΦ) he (p_lc (ls' := []) c136_81 rfl rfl h)
theorem B136_81 {ev : xV} {Q : Option Value → xM → Prop} {m : Nat} {Φ : (Nat → Nat → Int32) → xM} (hΦ : MLaw m Φ) {μ : Nat → Nat → Int32} {s0 : Int32} (h : Q (some (.int s0)) (Φ μ)) : wpE (xT 136) ev Q (81, [], [.int s0], Φ μ) := by
  exact p_ri (cct c136_81 rfl) trivial h
theorem B137_0 {ev : xV} {Q : Option Value → xM → Prop} {m : Nat} {Φ : (Nat → Nat → Int32) → xM} (hΦ : MLaw m Φ) {μ : Nat → Nat → Int32} {x1 x2 : Int32} (h : wpE (xT 137) ev Q (5, [(0, .ref m), (1, .int x1), (2, .int x2), (3, .int 0), (4, .int 0)], [], Φ μ)) : wpE (xT 137) ev Q (0, [(0, .ref m), (1, .int x1), (2, .int x2)], [], Φ μ) := by
  refine p_push (cc3 c137_0) ?_
  refine p_ist (ls' := [(3, .int 0), (0, .ref m), (1, .int x1), (2, .int x2)]) (cc3 c137_1) (by decide) rfl ?_
  refine p_push (cc3 c137_2) ?_
  refine p_ist (ls' := [(4, .int 0), (3, .int 0), (0, .ref m), (1, .int x1), (2, .int x2)]) (cc3 c137_3) (by decide) rfl ?_
  exact p_lc (ls' := [(0, .ref m), (1, .int x1), (2, .int x2), (3, .int 0), (4, .int 0)]) c137_5 rfl rfl h
theorem B137_5 {ev : xV} {Q : Option Value → xM → Prop} {m : Nat} {Φ : (Nat → Nat → Int32) → xM} (hΦ : MLaw m Φ) {μ : Nat → Nat → Int32} {x1 x2 x3 x4 : Int32} (h : ((x2 ≤ x4) → vp_in ((10 * x1) + x2) 50 ∧ Q (some (.int (x3 + (((μ 5 ((10 * x1) + x2).toNatClampNeg) - 1) / 2)))) (Φ μ)) ∧ (¬ (x2 ≤ x4) → vp_in ((10 * x1) + x4) 50 ∧ wpE (xT 137) ev Q (5, [(0, .ref m), (1, .int x1), (2, .int x2), (3, .int (x3 + (μ 5 ((10 * x1) + x4).toNatClampNeg))), (4, .int (x4 + 1))], [], Φ μ))) : wpE (xT 137) ev Q (5, [(0, .ref m), (1, .int x1), (2, .int x2), (3, .int x3), (4, .int x4)], [], Φ μ) := by
  refine p_ild (cct c137_5 rfl) rfl ?_
  refine p_ild (cc3 c137_7) rfl ?_
  refine p_icmp (cc3 c137_8) (fun c => ?_) (fun c => ?_)
  · have h := h.1 c
    refine p_ild (cc3 c137_32) rfl ?_
    refine p_ald (cc3 c137_33) rfl ?_
    refine pm_getp hΦ (cc3 c137_34) (c := 5) rfl (by decide) ?_
    refine p_push (cc3 c137_37) ?_
    refine p_ild (cc3 c137_39) rfl ?_
    refine p_bin (cc3 c137_40) ?_
    refine p_ild (cc3 c137_41) rfl ?_
    refine p_bin (cc3 c137_42) ?_
    obtain ⟨g, h⟩ := h
    refine pm_aldi hΦ (c := 5) (n := 50) (cc3 c137_43) (by decide) rfl rfl rfl g rfl ?_
    refine p_push (cc3 c137_44) ?_
    refine p_bin (cc3 c137_45) ?_
    refine p_push (cc3 c137_46) ?_
    refine p_div (cc3 c137_47) (by decide) ?_
    refine p_bin (cc3 c137_48) ?_
    exact p_ri (cc3 c137_49) trivial h
  · have h := h.2 c
    refine p_ild (cc3 c137_11) rfl ?_
    refine p_ald (cc3 c137_12) rfl ?_
    refine pm_getp hΦ (cc3 c137_13) (c := 5) rfl (by decide) ?_
    refine p_push (cc3 c137_16) ?_
    refine p_ild (cc3 c137_18) rfl ?_
    refine p_bin (cc3 c137_19) ?_
    refine p_ild (cc3 c137_20) rfl ?_
    refine p_bin (cc3 c137_22) ?_
    obtain ⟨g, h⟩ := h
    refine pm_aldi hΦ (c := 5) (n := 50) (cc3 c137_23) (by decide) rfl rfl rfl g rfl ?_
    refine p_bin (cc3 c137_24) ?_
    refine p_ist (ls' := [(3, .int (x3 + (μ 5 ((10 * x1) + x4).toNatClampNeg))), (0, .ref m), (1, .int x1), (2, .int x2), (4, .int x4)]) (cc3 c137_25) (by decide) rfl ?_
    refine p_iinc (y := x4 + 1) (ls' := [(4, .int (x4 + 1)), (3, .int (x3 + (μ 5 ((10 * x1) + x4).toNatClampNeg))), (0, .ref m), (1, .int x1), (2, .int x2)]) (cc3 c137_26) (by decide) rfl rfl rfl ?_
    refine p_goto (cc3 c137_29) ?_
    exact p_lc (ls' := [(0, .ref m), (1, .int x1), (2, .int x2), (3, .int (x3 + (μ 5 ((10 * x1) + x4).toNatClampNeg))), (4, .int (x4 + 1))]) c137_5 rfl rfl h
theorem B138_0 {ev : xV} {Q : Option Value → xM → Prop} {m : Nat} {Φ : (Nat → Nat → Int32) → xM} (hΦ : MLaw m Φ) {μ : Nat → Nat → Int32} {x1 x2 : Int32} (h : (∃ r μ', ev 135 [.ref m, .int x1] (Φ μ) (some (.int r)) (Φ μ') ∧ wpE (xT 138) ev Q (5, [(0, .ref m), (1, .int x1), (2, .int x2)], [.int r], Φ μ'))) : wpE (xT 138) ev Q (0, [(0, .ref m), (1, .int x1), (2, .int x2)], [], Φ μ) := by
  refine p_ald (cc3 c138_0) rfl ?_
  refine p_ild (cc3 c138_1) rfl ?_
  obtain ⟨r, μ', he, h⟩ := h
  exact p_callV (cc3 c138_2) (Nat.le_of_ble_eq_true rfl) rfl rfl (Nat.le_of_ble_eq_true rfl) (ml_kd hΦ) he h
theorem B138_5 {ev : xV} {Q : Option Value → xM → Prop} {m : Nat} {Φ : (Nat → Nat → Int32) → xM} (hΦ : MLaw m Φ) {μ : Nat → Nat → Int32} {x1 x2 s0 : Int32} (h : ((s0 = 0) → Q (some (.int ((-2)))) (Φ μ)) ∧ (¬ (s0 = 0) → ((x2 < 0) → Q (some (.int ((-2)))) (Φ μ)) ∧ (¬ (x2 < 0) → (∃ r μ', ev 139 [.ref m, .int x1, .int x2] (Φ μ) (some (.int r)) (Φ μ') ∧ wpE (xT 138) ev Q (18, [(0, .ref m), (1, .int x1), (2, .int x2)], [.int r], Φ μ'))))) : wpE (xT 138) ev Q (5, [(0, .ref m), (1, .int x1), (2, .int x2)], [.int s0], Φ μ) := by
  refine p_if (cc3 c138_5) (fun c => ?_) (fun c => ?_)
  · have h := h.1 c
    refine p_lc (ls' := []) c138_21 rfl rfl ?_
    refine p_push (cct c138_21 rfl) ?_
    exact p_ri (cct c138_23 rfl) trivial h
  · have h := h.2 c
    refine p_ild (cc3 c138_8) rfl ?_
    refine p_if (cc3 c138_9) (fun c => ?_) (fun c => ?_)
    · have h := h.1 c
      refine p_lc (ls' := []) c138_21 rfl rfl ?_
      refine p_push (cct c138_21 rfl) ?_
      exact p_ri (cct c138_23 rfl) trivial h
    · have h := h.2 c
      refine p_ald (cc3 c138_12) rfl ?_
      refine p_ild (cc3 c138_13) rfl ?_
      refine p_ild (cc3 c138_14) rfl ?_
      obtain ⟨r, μ', he, h⟩ := h
      exact p_callV (cc3 c138_15) (Nat.le_of_ble_eq_true rfl) rfl rfl (Nat.le_of_ble_eq_true rfl) (ml_kd hΦ) he h
theorem B138_18 {ev : xV} {Q : Option Value → xM → Prop} {m : Nat} {Φ : (Nat → Nat → Int32) → xM} (hΦ : MLaw m Φ) {μ : Nat → Nat → Int32} {x1 x2 s0 : Int32} (h : Q (some (.int s0)) (Φ μ)) : wpE (xT 138) ev Q (18, [(0, .ref m), (1, .int x1), (2, .int x2)], [.int s0], Φ μ) := by
  refine p_goto (cc3 c138_18) ?_
  refine p_lc (ls' := []) c138_23 rfl rfl ?_
  exact p_ri (cct c138_23 rfl) trivial h
theorem B139_0 {ev : xV} {Q : Option Value → xM → Prop} {m : Nat} {Φ : (Nat → Nat → Int32) → xM} (hΦ : MLaw m Φ) {μ : Nat → Nat → Int32} {x1 x2 : Int32} (h : vp_in x1 5 ∧ (¬ (μ 3 x1.toNatClampNeg) = 0) ∧ wpE (xT 139) ev Q (12, [(0, .ref m), (1, .int x1), (3, .int (x2 - x2 / (μ 3 x1.toNatClampNeg) * (μ 3 x1.toNatClampNeg))), (4, .int 0)], [], Φ μ)) : wpE (xT 139) ev Q (0, [(0, .ref m), (1, .int x1), (2, .int x2)], [], Φ μ) := by
  refine p_ild (cc3 c139_0) rfl ?_
  refine p_ald (cc3 c139_1) rfl ?_
  refine pm_getp hΦ (cc3 c139_2) (c := 3) rfl (by decide) ?_
  refine p_ild (cc3 c139_5) rfl ?_
  obtain ⟨g, h⟩ := h
  refine pm_aldi hΦ (c := 3) (n := 5) (cc3 c139_6) (by decide) rfl rfl rfl g rfl ?_
  obtain ⟨g, h⟩ := h
  refine p_div (cc3 c139_7) g ?_
  refine p_ist (ls' := [(3, .int (x2 - x2 / (μ 3 x1.toNatClampNeg) * (μ 3 x1.toNatClampNeg))), (0, .ref m), (1, .int x1), (2, .int x2)]) (cc3 c139_8) (by decide) rfl ?_
  refine p_push (cc3 c139_9) ?_
  refine p_ist (ls' := [(4, .int 0), (3, .int (x2 - x2 / (μ 3 x1.toNatClampNeg) * (μ 3 x1.toNatClampNeg))), (0, .ref m), (1, .int x1), (2, .int x2)]) (cc3 c139_10) (by decide) rfl ?_
  exact p_lc (ls' := [(0, .ref m), (1, .int x1), (3, .int (x2 - x2 / (μ 3 x1.toNatClampNeg) * (μ 3 x1.toNatClampNeg))), (4, .int 0)]) c139_12 rfl rfl h
theorem B139_12 {ev : xV} {Q : Option Value → xM → Prop} {m : Nat} {Φ : (Nat → Nat → Int32) → xM} (hΦ : MLaw m Φ) {μ : Nat → Nat → Int32} {x1 x3 x4 : Int32} (h : vp_in x1 5 ∧ (((μ 2 x1.toNatClampNeg) ≤ x4) → vp_in x1 5 ∧ wpE (xT 139) ev Q (83, [(0, .ref m), (1, .int x1), (3, .int x3), (4, .int ((μ 2 x1.toNatClampNeg) - 2))], [], Φ μ)) ∧ (¬ ((μ 2 x1.toNatClampNeg) ≤ x4) → vp_in ((10 * x1) + x4) 50 ∧ (((μ 5 ((10 * x1) + x4).toNatClampNeg) ≤ x3) → vp_in ((10 * x1) + x4) 50 ∧ wpE (xT 139) ev Q (12, [(0, .ref m), (1, .int x1), (3, .int (x3 - (μ 5 ((10 * x1) + x4).toNatClampNeg))), (4, .int (x4 + 1))], [], Φ μ)) ∧ (¬ ((μ 5 ((10 * x1) + x4).toNatClampNeg) ≤ x3) → vp_in ((10 * x1) + x4) 50 ∧ Q (some (.int (μ 4 ((10 * x1) + x4).toNatClampNeg))) (Φ μ)))) : wpE (xT 139) ev Q (12, [(0, .ref m), (1, .int x1), (3, .int x3), (4, .int x4)], [], Φ μ) := by
  refine p_ild (cct c139_12 rfl) rfl ?_
  refine p_ald (cc3 c139_14) rfl ?_
  refine pm_getp hΦ (cc3 c139_15) (c := 2) rfl (by decide) ?_
  refine p_ild (cc3 c139_18) rfl ?_
  obtain ⟨g, h⟩ := h
  refine pm_aldi hΦ (c := 2) (n := 5) (cc3 c139_19) (by decide) rfl rfl rfl g rfl ?_
  refine p_icmp (cc3 c139_20) (fun c => ?_) (fun c => ?_)
  · have h := h.1 c
    refine p_ald (cc3 c139_73) rfl ?_
    refine pm_getp hΦ (cc3 c139_74) (c := 2) rfl (by decide) ?_
    refine p_ild (cc3 c139_77) rfl ?_
    obtain ⟨g, h⟩ := h
    refine pm_aldi hΦ (c := 2) (n := 5) (cc3 c139_78) (by decide) rfl rfl rfl g rfl ?_
    refine p_push (cc3 c139_79) ?_
    refine p_bin (cc3 c139_80) ?_
    refine p_ist (ls' := [(4, .int ((μ 2 x1.toNatClampNeg) - 2)), (0, .ref m), (1, .int x1), (3, .int x3)]) (cc3 c139_81) (by decide) rfl ?_
    exact p_lc (ls' := [(0, .ref m), (1, .int x1), (3, .int x3), (4, .int ((μ 2 x1.toNatClampNeg) - 2))]) c139_83 rfl rfl h
  · have h := h.2 c
    refine p_ild (cc3 c139_23) rfl ?_
    refine p_ald (cc3 c139_24) rfl ?_
    refine pm_getp hΦ (cc3 c139_25) (c := 5) rfl (by decide) ?_
    refine p_push (cc3 c139_28) ?_
    refine p_ild (cc3 c139_30) rfl ?_
    refine p_bin (cc3 c139_31) ?_
    refine p_ild (cc3 c139_32) rfl ?_
    refine p_bin (cc3 c139_34) ?_
    obtain ⟨g, h⟩ := h
    refine pm_aldi hΦ (c := 5) (n := 50) (cc3 c139_35) (by decide) rfl rfl rfl g rfl ?_
    refine p_icmp (cc3 c139_36) (fun c => ?_) (fun c => ?_)
    · have h := h.1 c
      refine p_ild (cc3 c139_52) rfl ?_
      refine p_ald (cc3 c139_53) rfl ?_
      refine pm_getp hΦ (cc3 c139_54) (c := 5) rfl (by decide) ?_
      refine p_push (cc3 c139_57) ?_
      refine p_ild (cc3 c139_59) rfl ?_
      refine p_bin (cc3 c139_60) ?_
      refine p_ild (cc3 c139_61) rfl ?_
      refine p_bin (cc3 c139_63) ?_
      obtain ⟨g, h⟩ := h
      refine pm_aldi hΦ (c := 5) (n := 50) (cc3 c139_64) (by decide) rfl rfl rfl g rfl ?_
      refine p_bin (cc3 c139_65) ?_
      refine p_ist (ls' := [(3, .int (x3 - (μ 5 ((10 * x1) + x4).toNatClampNeg))), (0, .ref m), (1, .int x1), (4, .int x4)]) (cc3 c139_66) (by decide) rfl ?_
      refine p_iinc (y := x4 + 1) (ls' := [(4, .int (x4 + 1)), (3, .int (x3 - (μ 5 ((10 * x1) + x4).toNatClampNeg))), (0, .ref m), (1, .int x1)]) (cc3 c139_67) (by decide) rfl rfl rfl ?_
      refine p_goto (cc3 c139_70) ?_
      exact p_lc (ls' := [(0, .ref m), (1, .int x1), (3, .int (x3 - (μ 5 ((10 * x1) + x4).toNatClampNeg))), (4, .int (x4 + 1))]) c139_12 rfl rfl h
    · have h := h.2 c
      refine p_ald (cc3 c139_39) rfl ?_
      refine pm_getp hΦ (cc3 c139_40) (c := 4) rfl (by decide) ?_
      refine p_push (cc3 c139_43) ?_
      refine p_ild (cc3 c139_45) rfl ?_
      refine p_bin (cc3 c139_46) ?_
      refine p_ild (cc3 c139_47) rfl ?_
      refine p_bin (cc3 c139_49) ?_
      obtain ⟨g, h⟩ := h
      refine pm_aldi hΦ (c := 4) (n := 50) (cc3 c139_50) (by decide) rfl rfl rfl g rfl ?_
      exact p_ri (cc3 c139_51) trivial h
theorem B139_83 {ev : xV} {Q : Option Value → xM → Prop} {m : Nat} {Φ : (Nat → Nat → Int32) → xM} (hΦ : MLaw m Φ) {μ : Nat → Nat → Int32} {x1 x3 x4 : Int32} (h : ((x4 ≤ 0) → Q (some (.int ((-1)))) (Φ μ)) ∧ (¬ (x4 ≤ 0) → vp_in ((10 * x1) + x4) 50 ∧ (((μ 5 ((10 * x1) + x4).toNatClampNeg) ≤ x3) → vp_in ((10 * x1) + x4) 50 ∧ wpE (xT 139) ev Q (83, [(0, .ref m), (1, .int x1), (3, .int (x3 - (μ 5 ((10 * x1) + x4).toNatClampNeg))), (4, .int (x4 + (-1)))], [], Φ μ)) ∧ (¬ ((μ 5 ((10 * x1) + x4).toNatClampNeg) ≤ x3) → vp_in ((10 * x1) + x4) 50 ∧ Q (some (.int (μ 4 ((10 * x1) + x4).toNatClampNeg))) (Φ μ)))) : wpE (xT 139) ev Q (83, [(0, .ref m), (1, .int x1), (3, .int x3), (4, .int x4)], [], Φ μ) := by
  refine p_ild (cct c139_83 rfl) rfl ?_
  refine p_if (cc3 c139_85) (fun c => ?_) (fun c => ?_)
  · have h := h.1 c
    refine p_push (cc3 c139_138) ?_
    exact p_ri (cc3 c139_139) trivial h
  · have h := h.2 c
    refine p_ild (cc3 c139_88) rfl ?_
    refine p_ald (cc3 c139_89) rfl ?_
    refine pm_getp hΦ (cc3 c139_90) (c := 5) rfl (by decide) ?_
    refine p_push (cc3 c139_93) ?_
    refine p_ild (cc3 c139_95) rfl ?_
    refine p_bin (cc3 c139_96) ?_
    refine p_ild (cc3 c139_97) rfl ?_
    refine p_bin (cc3 c139_99) ?_
    obtain ⟨g, h⟩ := h
    refine pm_aldi hΦ (c := 5) (n := 50) (cc3 c139_100) (by decide) rfl rfl rfl g rfl ?_
    refine p_icmp (cc3 c139_101) (fun c => ?_) (fun c => ?_)
    · have h := h.1 c
      refine p_ild (cc3 c139_117) rfl ?_
      refine p_ald (cc3 c139_118) rfl ?_
      refine pm_getp hΦ (cc3 c139_119) (c := 5) rfl (by decide) ?_
      refine p_push (cc3 c139_122) ?_
      refine p_ild (cc3 c139_124) rfl ?_
      refine p_bin (cc3 c139_125) ?_
      refine p_ild (cc3 c139_126) rfl ?_
      refine p_bin (cc3 c139_128) ?_
      obtain ⟨g, h⟩ := h
      refine pm_aldi hΦ (c := 5) (n := 50) (cc3 c139_129) (by decide) rfl rfl rfl g rfl ?_
      refine p_bin (cc3 c139_130) ?_
      refine p_ist (ls' := [(3, .int (x3 - (μ 5 ((10 * x1) + x4).toNatClampNeg))), (0, .ref m), (1, .int x1), (4, .int x4)]) (cc3 c139_131) (by decide) rfl ?_
      refine p_iinc (y := x4 + (-1)) (ls' := [(4, .int (x4 + (-1))), (3, .int (x3 - (μ 5 ((10 * x1) + x4).toNatClampNeg))), (0, .ref m), (1, .int x1)]) (cc3 c139_132) (by decide) rfl rfl rfl ?_
      refine p_goto (cc3 c139_135) ?_
      exact p_lc (ls' := [(0, .ref m), (1, .int x1), (3, .int (x3 - (μ 5 ((10 * x1) + x4).toNatClampNeg))), (4, .int (x4 + (-1)))]) c139_83 rfl rfl h
    · have h := h.2 c
      refine p_ald (cc3 c139_104) rfl ?_
      refine pm_getp hΦ (cc3 c139_105) (c := 4) rfl (by decide) ?_
      refine p_push (cc3 c139_108) ?_
      refine p_ild (cc3 c139_110) rfl ?_
      refine p_bin (cc3 c139_111) ?_
      refine p_ild (cc3 c139_112) rfl ?_
      refine p_bin (cc3 c139_114) ?_
      obtain ⟨g, h⟩ := h
      refine pm_aldi hΦ (c := 4) (n := 50) (cc3 c139_115) (by decide) rfl rfl rfl g rfl ?_
      exact p_ri (cc3 c139_116) trivial h
