theorem B194_0 {ev : xV} {Q : Option Value → xM → Prop} {m : Nat} {Φ : (Nat → Nat → Int32) → xM} (hΦ : MLaw m Φ) {μ : Nat → Nat → Int32} {x1 : Int32} (h : (∃ r μ', ev 129 [.ref m, .int x1, .int 0, .int 7] (Φ μ) (some (.int r)) (Φ μ') ∧ wpE (xT 194) ev Q (8, [(0, .ref m), (1, .int x1)], [.int r], Φ μ'))) : wpE (xT 194) ev Q (0, [(0, .ref m), (1, .int x1)], [], Φ μ) := by
  refine p_ald (cc3 c194_0) rfl ?_
  refine p_ild (cc3 c194_1) rfl ?_
  refine p_push (cc3 c194_2) ?_
  refine p_push (cc3 c194_3) ?_
  obtain ⟨r, μ', he, h⟩ := h
  exact p_callV (cc3 c194_5) (Nat.le_of_ble_eq_true rfl) rfl rfl (Nat.le_of_ble_eq_true rfl) (ml_kd hΦ) he h
theorem B194_8 {ev : xV} {Q : Option Value → xM → Prop} {m : Nat} {Φ : (Nat → Nat → Int32) → xM} (hΦ : MLaw m Φ) {μ : Nat → Nat → Int32} {x1 s0 : Int32} (h : ((s0 = 0) → Q (some (.int ((-1)))) (Φ μ)) ∧ (¬ (s0 = 0) → vp_in x1 8 ∧ Q (some (.int (μ 41 x1.toNatClampNeg))) (Φ μ))) : wpE (xT 194) ev Q (8, [(0, .ref m), (1, .int x1)], [.int s0], Φ μ) := by
  refine p_if (cc3 c194_8) (fun c => ?_) (fun c => ?_)
  · have h := h.1 c
    refine p_push (cc3 c194_20) ?_
    refine p_lc (ls' := []) c194_21 rfl rfl ?_
    exact p_ri (cct c194_21 rfl) trivial h
  · have h := h.2 c
    refine p_ald (cc3 c194_11) rfl ?_
    refine pm_getp hΦ (cc3 c194_12) (c := 41) rfl (by decide) ?_
    refine p_ild (cc3 c194_15) rfl ?_
    obtain ⟨g, h⟩ := h
    refine pm_aldi hΦ (c := 41) (n := 8) (cc3 c194_16) (by decide) rfl rfl rfl g rfl ?_
    refine p_goto (cc3 c194_17) ?_
    refine p_lc (ls' := []) c194_21 rfl rfl ?_
    exact p_ri (cct c194_21 rfl) trivial h
theorem B195_0 {ev : xV} {Q : Option Value → xM → Prop} {m : Nat} {Φ : (Nat → Nat → Int32) → xM} (hΦ : MLaw m Φ) {μ : Nat → Nat → Int32} {x1 : Int32} (h : ((x1 = 0) → Q (some (.int (μ 0 2))) (Φ μ)) ∧ (¬ (x1 = 0) → ((x1 = 1) → Q (some (.int (μ 0 8))) (Φ μ)) ∧ (¬ (x1 = 1) → ((x1 = 2) → Q (some (.int (μ 0 13))) (Φ μ)) ∧ (¬ (x1 = 2) → ((x1 = 3) → Q (some (.int (μ 0 42))) (Φ μ)) ∧ (¬ (x1 = 3) → ((x1 = 4) → Q (some (.int (μ 0 1))) (Φ μ)) ∧ (¬ (x1 = 4) → ((x1 = 5) → Q (some (.int (μ 0 43))) (Φ μ)) ∧ (¬ (x1 = 5) → ((x1 = 6) → wpE (xT 195) ev Q (76, [(0, .ref m), (2, .int 0), (3, .int 0)], [], Φ μ)) ∧ (¬ (x1 = 6) → Q (some (.int ((-2)))) (Φ μ))))))))) : wpE (xT 195) ev Q (0, [(0, .ref m), (1, .int x1)], [], Φ μ) := by
  refine p_push (cc3 c195_0) ?_
  refine p_ist (ls' := [(2, .int 0), (0, .ref m), (1, .int x1)]) (cc3 c195_1) (by decide) rfl ?_
  refine p_ild (cc3 c195_2) rfl ?_
  refine p_sw (cc3 c195_3) ?_
  refine ⟨fun c => ?_, fun c => ?_⟩
  · have h := h.1 c
    refine p_ald (cc3 c195_44) rfl ?_
    refine pm_geti hΦ (v := μ 0 2) (cc3 c195_45) rfl ?_
    exact p_ri (cc3 c195_48) trivial h
  · have h := h.2 c
    refine ⟨fun c => ?_, fun c => ?_⟩
    · have h := h.1 c
      refine p_ald (cc3 c195_49) rfl ?_
      refine pm_geti hΦ (v := μ 0 8) (cc3 c195_50) rfl ?_
      exact p_ri (cc3 c195_53) trivial h
    · have h := h.2 c
      refine ⟨fun c => ?_, fun c => ?_⟩
      · have h := h.1 c
        refine p_ald (cc3 c195_54) rfl ?_
        refine pm_geti hΦ (v := μ 0 13) (cc3 c195_55) rfl ?_
        exact p_ri (cc3 c195_58) trivial h
      · have h := h.2 c
        refine ⟨fun c => ?_, fun c => ?_⟩
        · have h := h.1 c
          refine p_ald (cc3 c195_59) rfl ?_
          refine pm_geti hΦ (v := μ 0 42) (cc3 c195_60) rfl ?_
          exact p_ri (cc3 c195_63) trivial h
        · have h := h.2 c
          refine ⟨fun c => ?_, fun c => ?_⟩
          · have h := h.1 c
            refine p_ald (cc3 c195_64) rfl ?_
            refine pm_geti hΦ (v := μ 0 1) (cc3 c195_65) rfl ?_
            exact p_ri (cc3 c195_68) trivial h
          · have h := h.2 c
            refine ⟨fun c => ?_, fun c => ?_⟩
            · have h := h.1 c
              refine p_ald (cc3 c195_69) rfl ?_
              refine pm_geti hΦ (v := μ 0 43) (cc3 c195_70) rfl ?_
              exact p_ri (cc3 c195_73) trivial h
            · have h := h.2 c
              refine ⟨fun c => ?_, fun c => ?_⟩
              · have h := h.1 c
                refine p_push (cc3 c195_74) ?_
                refine p_ist (ls' := [(3, .int 0), (2, .int 0), (0, .ref m), (1, .int x1)]) (cc3 c195_75) (by decide) rfl ?_
                exact p_lc (ls' := [(0, .ref m), (2, .int 0), (3, .int 0)]) c195_76 rfl rfl h
              · have h := h.2 c
                refine p_push (cc3 c195_109) ?_
                exact p_ri (cc3 c195_111) trivial h
theorem B195_76 {ev : xV} {Q : Option Value → xM → Prop} {m : Nat} {Φ : (Nat → Nat → Int32) → xM} (hΦ : MLaw m Φ) {μ : Nat → Nat → Int32} {x2 x3 : Int32} (h : (((μ 0 13) ≤ x3) → Q (some (.int x2)) (Φ μ)) ∧ (¬ ((μ 0 13) ≤ x3) → vp_in x3 8 ∧ (((μ 20 x3.toNatClampNeg) < 0) → wpE (xT 195) ev Q (76, [(0, .ref m), (2, .int (x2 + 0)), (3, .int (x3 + 1))], [], Φ μ)) ∧ (¬ ((μ 20 x3.toNatClampNeg) < 0) → wpE (xT 195) ev Q (76, [(0, .ref m), (2, .int (x2 + 1)), (3, .int (x3 + 1))], [], Φ μ)))) : wpE (xT 195) ev Q (76, [(0, .ref m), (2, .int x2), (3, .int x3)], [], Φ μ) := by
  refine p_ild (cct c195_76 rfl) rfl ?_
  refine p_ald (cc3 c195_77) rfl ?_
  refine pm_geti hΦ (v := μ 0 13) (cc3 c195_78) rfl ?_
  refine p_icmp (cc3 c195_81) (fun c => ?_) (fun c => ?_)
  · have h := h.1 c
    refine p_ild (cc3 c195_107) rfl ?_
    exact p_ri (cc3 c195_108) trivial h
  · have h := h.2 c
    refine p_ild (cc3 c195_84) rfl ?_
    refine p_ald (cc3 c195_85) rfl ?_
    refine pm_getp hΦ (cc3 c195_86) (c := 20) rfl (by decide) ?_
    refine p_ild (cc3 c195_89) rfl ?_
    obtain ⟨g, h⟩ := h
    refine pm_aldi hΦ (c := 20) (n := 8) (cc3 c195_90) (by decide) rfl rfl rfl g rfl ?_
    refine p_if (cc3 c195_91) (fun c => ?_) (fun c => ?_)
    · have h := h.1 c
      refine p_push (cc3 c195_98) ?_
      refine p_lc (ls' := [(0, .ref m), (3, .int x3)]) c195_99 rfl rfl ?_
      refine p_bin (cct c195_99 rfl) ?_
      refine p_ist (ls' := [(2, .int (x2 + 0)), (0, .ref m), (3, .int x3)]) (cc3 c195_100) (by decide) rfl ?_
      refine p_iinc (y := x3 + 1) (ls' := [(3, .int (x3 + 1)), (2, .int (x2 + 0)), (0, .ref m)]) (cc3 c195_101) (by decide) rfl rfl rfl ?_
      refine p_goto (cc3 c195_104) ?_
      exact p_lc (ls' := [(0, .ref m), (2, .int (x2 + 0)), (3, .int (x3 + 1))]) c195_76 rfl rfl h
    · have h := h.2 c
      refine p_push (cc3 c195_94) ?_
      refine p_goto (cc3 c195_95) ?_
      refine p_lc (ls' := [(0, .ref m), (3, .int x3)]) c195_99 rfl rfl ?_
      refine p_bin (cct c195_99 rfl) ?_
      refine p_ist (ls' := [(2, .int (x2 + 1)), (0, .ref m), (3, .int x3)]) (cc3 c195_100) (by decide) rfl ?_
      refine p_iinc (y := x3 + 1) (ls' := [(3, .int (x3 + 1)), (2, .int (x2 + 1)), (0, .ref m)]) (cc3 c195_101) (by decide) rfl rfl rfl ?_
      refine p_goto (cc3 c195_104) ?_
      exact p_lc (ls' := [(0, .ref m), (2, .int (x2 + 1)), (3, .int (x3 + 1))]) c195_76 rfl rfl h
theorem B196_0 {ev : xV} {Q : Option Value → xM → Prop} {m : Nat} {Φ : (Nat → Nat → Int32) → xM} (hΦ : MLaw m Φ) {μ : Nat → Nat → Int32} {x1 x2 x3 : Int32} (h : (∃ r μ', ev 197 [.ref m, .int x1] (Φ μ) (some (.int r)) (Φ μ') ∧ wpE (xT 196) ev Q (5, [(0, .ref m), (1, .int x1), (2, .int x2), (3, .int x3)], [.int r], Φ μ'))) : wpE (xT 196) ev Q (0, [(0, .ref m), (1, .int x1), (2, .int x2), (3, .int x3)], [], Φ μ) := by
  refine p_ald (cc3 c196_0) rfl ?_
  refine p_ild (cc3 c196_1) rfl ?_
  obtain ⟨r, μ', he, h⟩ := h
  exact p_callV (cc3 c196_2) (Nat.le_of_ble_eq_true rfl) rfl rfl (Nat.le_of_ble_eq_true rfl) (ml_kd hΦ) he h
theorem B196_5 {ev : xV} {Q : Option Value → xM → Prop} {m : Nat} {Φ : (Nat → Nat → Int32) → xM} (hΦ : MLaw m Φ) {μ : Nat → Nat → Int32} {x1 x2 x3 s0 : Int32} (h : ((s0 = 0) → Q (some (.int ((-2)))) (Φ μ)) ∧ (¬ (s0 = 0) → (∃ r μ', ev 129 [.ref m, .int x2, .int ((-1)), .int 2] (Φ μ) (some (.int r)) (Φ μ') ∧ wpE (xT 196) ev Q (15, [(0, .ref m), (1, .int x1), (2, .int x2), (3, .int x3)], [.int r], Φ μ')))) : wpE (xT 196) ev Q (5, [(0, .ref m), (1, .int x1), (2, .int x2), (3, .int x3)], [.int s0], Φ μ) := by
  refine p_if (cc3 c196_5) (fun c => ?_) (fun c => ?_)
  · have h := h.1 c
    refine p_lc (ls' := []) c196_28 rfl rfl ?_
    refine p_push (cct c196_28 rfl) ?_
    exact p_ri (cc3 c196_30) trivial h
  · have h := h.2 c
    refine p_ald (cc3 c196_8) rfl ?_
    refine p_ild (cc3 c196_9) rfl ?_
    refine p_push (cc3 c196_10) ?_
    refine p_push (cc3 c196_11) ?_
    obtain ⟨r, μ', he, h⟩ := h
    exact p_callV (cc3 c196_12) (Nat.le_of_ble_eq_true rfl) rfl rfl (Nat.le_of_ble_eq_true rfl) (ml_kd hΦ) he h
theorem B196_15 {ev : xV} {Q : Option Value → xM → Prop} {m : Nat} {Φ : (Nat → Nat → Int32) → xM} (hΦ : MLaw m Φ) {μ : Nat → Nat → Int32} {x1 x2 x3 s0 : Int32} (h : ((s0 = 0) → Q (some (.int ((-2)))) (Φ μ)) ∧ (¬ (s0 = 0) → ((x2 < 0) → wpE (xT 196) ev Q (31, [(0, .ref m), (1, .int x1), (2, .int x2), (3, .int x3)], [], Φ μ)) ∧ (¬ (x2 < 0) → ((x3 ≤ 40) → wpE (xT 196) ev Q (31, [(0, .ref m), (1, .int x1), (2, .int x2), (3, .int x3)], [], Φ μ)) ∧ (¬ (x3 ≤ 40) → Q (some (.int ((-2)))) (Φ μ))))) : wpE (xT 196) ev Q (15, [(0, .ref m), (1, .int x1), (2, .int x2), (3, .int x3)], [.int s0], Φ μ) := by
  refine p_if (cc3 c196_15) (fun c => ?_) (fun c => ?_)
  · have h := h.1 c
    refine p_lc (ls' := []) c196_28 rfl rfl ?_
    refine p_push (cct c196_28 rfl) ?_
    exact p_ri (cc3 c196_30) trivial h
  · have h := h.2 c
    refine p_ild (cc3 c196_18) rfl ?_
    refine p_if (cc3 c196_19) (fun c => ?_) (fun c => ?_)
    · have h := h.1 c
      exact h
    · have h := h.2 c
      refine p_ild (cc3 c196_22) rfl ?_
      refine p_push (cc3 c196_23) ?_
      refine p_icmp (cc3 c196_25) (fun c => ?_) (fun c => ?_)
      · have h := h.1 c
        exact h
      · have h := h.2 c
        refine p_lc (ls' := []) c196_28 rfl rfl ?_
        refine p_push (cct c196_28 rfl) ?_
        exact p_ri (cc3 c196_30) trivial h
theorem B196_31 {ev : xV} {Q : Option Value → xM → Prop} {m : Nat} {Φ : (Nat → Nat → Int32) → xM} (hΦ : MLaw m Φ) {μ : Nat → Nat → Int32} {x1 x2 x3 : Int32} (h : ((x2 < 0) → wpE (xT 196) ev Q (42, [(0, .ref m), (1, .int x1), (2, .int x2), (3, .int x3)], [], Φ μ)) ∧ (¬ (x2 < 0) → ((0 ≤ x3) → wpE (xT 196) ev Q (42, [(0, .ref m), (1, .int x1), (2, .int x2), (3, .int x3)], [], Φ μ)) ∧ (¬ (0 ≤ x3) → Q (some (.int ((-14)))) (Φ μ)))) : wpE (xT 196) ev Q (31, [(0, .ref m), (1, .int x1), (2, .int x2), (3, .int x3)], [], Φ μ) := by
  refine p_ild (cct c196_31 rfl) rfl ?_
  refine p_if (cc3 c196_32) (fun c => ?_) (fun c => ?_)
  · have h := h.1 c
    exact h
  · have h := h.2 c
    refine p_ild (cc3 c196_35) rfl ?_
    refine p_if (cc3 c196_36) (fun c => ?_) (fun c => ?_)
    · have h := h.1 c
      exact h
    · have h := h.2 c
      refine p_push (cc3 c196_39) ?_
      exact p_ri (cc3 c196_41) trivial h
theorem B196_42 {ev : xV} {Q : Option Value → xM → Prop} {m : Nat} {Φ : (Nat → Nat → Int32) → xM} (hΦ : MLaw m Φ) {μ : Nat → Nat → Int32} {x1 x2 x3 : Int32} (h : vp_in x1 4 ∧ ((0 ≤ x2) → vp_in x1 4 ∧ wpE (xT 196) ev Q (67, [(0, .ref m), (1, .int x1), (4, .int 0)], [], Φ (U (U μ 43 x1.toNatClampNeg x2) 44 x1.toNatClampNeg x3))) ∧ (¬ (0 ≤ x2) → vp_in x1 4 ∧ wpE (xT 196) ev Q (67, [(0, .ref m), (1, .int x1), (4, .int 0)], [], Φ (U (U μ 43 x1.toNatClampNeg x2) 44 x1.toNatClampNeg 0)))) : wpE (xT 196) ev Q (42, [(0, .ref m), (1, .int x1), (2, .int x2), (3, .int x3)], [], Φ μ) := by
  refine p_ald (cct c196_42 rfl) rfl ?_
  refine pm_getp hΦ (cc3 c196_43) (c := 43) rfl (by decide) ?_
  refine p_ild (cc3 c196_46) rfl ?_
  refine p_ild (cc3 c196_47) rfl ?_
  obtain ⟨g, h⟩ := h
  refine pm_asti hΦ (c := 43) (n := 4) (cc3 c196_48) (by decide) rfl rfl rfl g ?_
  refine p_ald (cc3 c196_49) rfl ?_
  refine pm_getp hΦ (cc3 c196_50) (c := 44) rfl (by decide) ?_
  refine p_ild (cc3 c196_53) rfl ?_
  refine p_ild (cc3 c196_54) rfl ?_
  refine p_if (cc3 c196_55) (fun c => ?_) (fun c => ?_)
  · have h := h.1 c
    refine p_ild (cc3 c196_62) rfl ?_
    refine p_lc (ls' := [(0, .ref m), (1, .int x1)]) c196_63 rfl rfl ?_
    obtain ⟨g, h⟩ := h
    refine pm_asti hΦ (c := 44) (n := 4) (cct c196_63 rfl) (by decide) rfl rfl rfl g ?_
    refine p_push (cc3 c196_64) ?_
    refine p_ist (ls' := [(4, .int 0), (0, .ref m), (1, .int x1)]) (cc3 c196_65) (by decide) rfl ?_
    exact p_lc (ls' := [(0, .ref m), (1, .int x1), (4, .int 0)]) c196_67 rfl rfl h
  · have h := h.2 c
    refine p_push (cc3 c196_58) ?_
    refine p_goto (cc3 c196_59) ?_
    refine p_lc (ls' := [(0, .ref m), (1, .int x1)]) c196_63 rfl rfl ?_
    obtain ⟨g, h⟩ := h
    refine pm_asti hΦ (c := 44) (n := 4) (cct c196_63 rfl) (by decide) rfl rfl rfl g ?_
    refine p_push (cc3 c196_64) ?_
    refine p_ist (ls' := [(4, .int 0), (0, .ref m), (1, .int x1)]) (cc3 c196_65) (by decide) rfl ?_
    exact p_lc (ls' := [(0, .ref m), (1, .int x1), (4, .int 0)]) c196_67 rfl rfl h
theorem B196_67 {ev : xV} {Q : Option Value → xM → Prop} {m : Nat} {Φ : (Nat → Nat → Int32) → xM} (hΦ : MLaw m Φ) {μ : Nat → Nat → Int32} {x1 x4 : Int32} (h : ((40 ≤ x4) → Q (some (.int 1)) (Φ μ)) ∧ (¬ (40 ≤ x4) → vp_in ((40 * x1) + x4) 160 ∧ wpE (xT 196) ev Q (67, [(0, .ref m), (1, .int x1), (4, .int (x4 + 1))], [], Φ (U μ 45 (((40 * x1) + x4).toNatClampNeg) 0)))) : wpE (xT 196) ev Q (67, [(0, .ref m), (1, .int x1), (4, .int x4)], [], Φ μ) := by
  refine p_ild (cct c196_67 rfl) rfl ?_
  refine p_push (cc3 c196_69) ?_
  refine p_icmp (cc3 c196_71) (fun c => ?_) (fun c => ?_)
  · have h := h.1 c
    refine p_push (cc3 c196_93) ?_
    exact p_ri (cc3 c196_94) trivial h
  · have h := h.2 c
    refine p_ald (cc3 c196_74) rfl ?_
    refine pm_getp hΦ (cc3 c196_75) (c := 45) rfl (by decide) ?_
    refine p_push (cc3 c196_78) ?_
    refine p_ild (cc3 c196_80) rfl ?_
    refine p_bin (cc3 c196_81) ?_
    refine p_ild (cc3 c196_82) rfl ?_
    refine p_bin (cc3 c196_84) ?_
    refine p_push (cc3 c196_85) ?_
    obtain ⟨g, h⟩ := h
    refine pm_asti hΦ (c := 45) (n := 160) (cc3 c196_86) (by decide) rfl rfl rfl g ?_
    refine p_iinc (y := x4 + 1) (ls' := [(4, .int (x4 + 1)), (0, .ref m), (1, .int x1)]) (cc3 c196_87) (by decide) rfl rfl rfl ?_
    refine p_goto (cc3 c196_90) ?_
    exact p_lc (ls' := [(0, .ref m), (1, .int x1), (4, .int (x4 + 1))]) c196_67 rfl rfl h
theorem B197_0 {ev : xV} {Q : Option Value → xM → Prop} {m : Nat} {Φ : (Nat → Nat → Int32) → xM} (hΦ : MLaw m Φ) {μ : Nat → Nat → Int32} {x1 : Int32} (h : (∃ r μ', ev 129 [.ref m, .int x1, .int 0, .int 3] (Φ μ) (some (.int r)) (Φ μ') ∧ wpE (xT 197) ev Q (7, [(0, .ref m), (1, .int x1)], [.int r], Φ μ'))) : wpE (xT 197) ev Q (0, [(0, .ref m), (1, .int x1)], [], Φ μ) := by
  refine p_ald (cc3 c197_0) rfl ?_
  refine p_ild (cc3 c197_1) rfl ?_
  refine p_push (cc3 c197_2) ?_
  refine p_push (cc3 c197_3) ?_
  obtain ⟨r, μ', he, h⟩ := h
  exact p_callV (cc3 c197_4) (Nat.le_of_ble_eq_true rfl) rfl rfl (Nat.le_of_ble_eq_true rfl) (ml_kd hΦ) he h
theorem B197_7 {ev : xV} {Q : Option Value → xM → Prop} {m : Nat} {Φ : (Nat → Nat → Int32) → xM} (hΦ : MLaw m Φ) {μ : Nat → Nat → Int32} {x1 s0 : Int32} (h : ((s0 = 0 ∨ s0 = 1) ∧ Q (some (.int s0)) (Φ μ))) : wpE (xT 197) ev Q (7, [(0, .ref m), (1, .int x1)], [.int s0], Φ μ) := by
  exact p_ri (cc3 c197_7) h.1 h.2
theorem B198_0 {ev : xV} {Q : Option Value → xM → Prop} {m : Nat} {Φ : (Nat → Nat → Int32) → xM} (hΦ : MLaw m Φ) {μ : Nat → Nat → Int32} {x1 x2 x3 : Int32} (h : (∃ r μ', ev 197 [.ref m, .int x1] (Φ μ) (some (.int r)) (Φ μ') ∧ wpE (xT 198) ev Q (5, [(0, .ref m), (1, .int x1), (2, .int x2), (3, .int x3)], [.int r], Φ μ'))) : wpE (xT 198) ev Q (0, [(0, .ref m), (1, .int x1), (2, .int x2), (3, .int x3)], [], Φ μ) := by
  refine p_ald (cc3 c198_0) rfl ?_
  refine p_ild (cc3 c198_1) rfl ?_
  obtain ⟨r, μ', he, h⟩ := h
  exact p_callV (cc3 c198_2) (Nat.le_of_ble_eq_true rfl) rfl rfl (Nat.le_of_ble_eq_true rfl) (ml_kd hΦ) he h
theorem B198_5 {ev : xV} {Q : Option Value → xM → Prop} {m : Nat} {Φ : (Nat → Nat → Int32) → xM} (hΦ : MLaw m Φ) {μ : Nat → Nat → Int32} {x1 x2 x3 s0 : Int32} (h : ((s0 = 0) → Q (some (.int ((-2)))) (Φ μ)) ∧ (¬ (s0 = 0) → vp_in x1 4 ∧ ((0 ≤ (μ 43 x1.toNatClampNeg)) → vp_in x1 4 ∧ (∃ r μ', ev 129 [.ref m, .int x2, .int 0, .int ((μ 44 x1.toNatClampNeg) - 1)] (Φ μ) (some (.int r)) (Φ μ') ∧ wpE (xT 198) ev Q (37, [(0, .ref m), (1, .int x1), (2, .int x2), (3, .int x3)], [.int r], Φ μ'))) ∧ (¬ (0 ≤ (μ 43 x1.toNatClampNeg)) → Q (some (.int ((-11)))) (Φ μ)))) : wpE (xT 198) ev Q (5, [(0, .ref m), (1, .int x1), (2, .int x2), (3, .int x3)], [.int s0], Φ μ) := by
  refine p_if (cc3 c198_5) (fun c => ?_) (fun c => ?_)
  · have h := h.1 c
    refine p_push (cc3 c198_8) ?_
    exact p_ri (cc3 c198_10) trivial h
  · have h := h.2 c
    refine p_ald (cc3 c198_11) rfl ?_
    refine pm_getp hΦ (cc3 c198_12) (c := 43) rfl (by decide) ?_
    refine p_ild (cc3 c198_15) rfl ?_
    obtain ⟨g, h⟩ := h
    refine pm_aldi hΦ (c := 43) (n := 4) (cc3 c198_16) (by decide) rfl rfl rfl g rfl ?_
    refine p_if (cc3 c198_17) (fun c => ?_) (fun c => ?_)
    · have h := h.1 c
      refine p_ald (cc3 c198_23) rfl ?_
      refine p_ild (cc3 c198_24) rfl ?_
      refine p_push (cc3 c198_25) ?_
      refine p_ald (cc3 c198_26) rfl ?_
      refine pm_getp hΦ (cc3 c198_27) (c := 44) rfl (by decide) ?_
      refine p_ild (cc3 c198_30) rfl ?_
      obtain ⟨g, h⟩ := h
      refine pm_aldi hΦ (c := 44) (n := 4) (cc3 c198_31) (by decide) rfl rfl rfl g rfl ?_
      refine p_push (cc3 c198_32) ?_
      refine p_bin (cc3 c198_33) ?_
      obtain ⟨r, μ', he, h⟩ := h
      exact p_callV (cc3 c198_34) (Nat.le_of_ble_eq_true rfl) rfl rfl (Nat.le_of_ble_eq_true rfl) (ml_kd hΦ) he h
    · have h := h.2 c
      refine p_push (cc3 c198_20) ?_
      exact p_ri (cc3 c198_22) trivial h
theorem B198_37 {ev : xV} {Q : Option Value → xM → Prop} {m : Nat} {Φ : (Nat → Nat → Int32) → xM} (hΦ : MLaw m Φ) {μ : Nat → Nat → Int32} {x1 x2 x3 s0 : Int32} (h : ((s0 = 0) → Q (some (.int ((-12)))) (Φ μ)) ∧ (¬ (s0 = 0) → vp_in x1 4 ∧ (((μ 43 x1.toNatClampNeg) = 0) → vp_in ((40 * x1) + x2) 160 ∧ Q (some (.int 1)) (Φ (U μ 45 (((40 * x1) + x2).toNatClampNeg) x3.toInt8.toInt32))) ∧ (¬ ((μ 43 x1.toNatClampNeg) = 0) → vp_in x1 4 ∧ (((μ 43 x1.toNatClampNeg) = 1) → vp_in ((40 * x1) + x2) 160 ∧ Q (some (.int 1)) (Φ (U μ 45 (((40 * x1) + x2).toNatClampNeg) x3.toInt16.toInt32))) ∧ (¬ ((μ 43 x1.toNatClampNeg) = 1) → vp_in ((40 * x1) + x2) 160 ∧ Q (some (.int 1)) (Φ (U μ 45 (((40 * x1) + x2).toNatClampNeg) x3)))))) : wpE (xT 198) ev Q (37, [(0, .ref m), (1, .int x1), (2, .int x2), (3, .int x3)], [.int s0], Φ μ) := by
  refine p_if (cc3 c198_37) (fun c => ?_) (fun c => ?_)
  · have h := h.1 c
    refine p_push (cc3 c198_40) ?_
    exact p_ri (cc3 c198_42) trivial h
  · have h := h.2 c
    refine p_ald (cc3 c198_43) rfl ?_
    refine pm_getp hΦ (cc3 c198_44) (c := 45) rfl (by decide) ?_
    refine p_push (cc3 c198_47) ?_
    refine p_ild (cc3 c198_49) rfl ?_
    refine p_bin (cc3 c198_50) ?_
    refine p_ild (cc3 c198_51) rfl ?_
    refine p_bin (cc3 c198_52) ?_
    refine p_ald (cc3 c198_53) rfl ?_
    refine pm_getp hΦ (cc3 c198_54) (c := 43) rfl (by decide) ?_
    refine p_ild (cc3 c198_57) rfl ?_
    obtain ⟨g, h⟩ := h
    refine pm_aldi hΦ (c := 43) (n := 4) (cc3 c198_58) (by decide) rfl rfl rfl g rfl ?_
    refine p_if (cc3 c198_59) (fun c => ?_) (fun c => ?_)
    · have h := h.1 c
      refine p_ild (cc3 c198_62) rfl ?_
      refine p_un (cc3 c198_63) ?_
      refine p_goto (cc3 c198_64) ?_
      refine p_lc (ls' := []) c198_83 rfl rfl ?_
      obtain ⟨g, h⟩ := h
      refine pm_asti hΦ (c := 45) (n := 160) (cct c198_83 rfl) (by decide) rfl rfl rfl g ?_
      refine p_push (cc3 c198_84) ?_
      exact p_ri (cc3 c198_85) trivial h
    · have h := h.2 c
      refine p_ald (cc3 c198_67) rfl ?_
      refine pm_getp hΦ (cc3 c198_68) (c := 43) rfl (by decide) ?_
      refine p_ild (cc3 c198_71) rfl ?_
      obtain ⟨g, h⟩ := h
      refine pm_aldi hΦ (c := 43) (n := 4) (cc3 c198_72) (by decide) rfl rfl rfl g rfl ?_
      refine p_push (cc3 c198_73) ?_
      refine p_icmp (cc3 c198_74) (fun c => ?_) (fun c => ?_)
      · have h := h.1 c
        refine p_ild (cc3 c198_77) rfl ?_
        refine p_un (cc3 c198_78) ?_
        refine p_goto (cc3 c198_79) ?_
        refine p_lc (ls' := []) c198_83 rfl rfl ?_
        obtain ⟨g, h⟩ := h
        refine pm_asti hΦ (c := 45) (n := 160) (cct c198_83 rfl) (by decide) rfl rfl rfl g ?_
        refine p_push (cc3 c198_84) ?_
        exact p_ri (cc3 c198_85) trivial h
      · have h := h.2 c
        refine p_ild (cc3 c198_82) rfl ?_
        refine p_lc (ls' := []) c198_83 rfl rfl ?_
        obtain ⟨g, h⟩ := h
        refine pm_asti hΦ (c := 45) (n := 160) (cct c198_83 rfl) (by decide) rfl rfl rfl g ?_
        refine p_push (cc3 c198_84) ?_
        exact p_ri (cc3 c198_85) trivial h
theorem B199_0 {ev : xV} {Q : Option Value → xM → Prop} {m : Nat} {Φ : (Nat → Nat → Int32) → xM} (hΦ : MLaw m Φ) {μ : Nat → Nat → Int32} {x1 x2 x3 x4 x5 : Int32} (h : (∃ r μ', ev 143 [.ref m, .int x1] (Φ μ) (some (.int r)) (Φ μ') ∧ wpE (xT 199) ev Q (5, [(0, .ref m), (1, .int x1), (2, .int x2), (3, .int x3), (4, .int x4), (5, .int x5)], [.int r], Φ μ'))) : wpE (xT 199) ev Q (0, [(0, .ref m), (1, .int x1), (2, .int x2), (3, .int x3), (4, .int x4), (5, .int x5)], [], Φ μ) := by
  refine p_ald (cc3 c199_0) rfl ?_
  refine p_ild (cc3 c199_1) rfl ?_
  obtain ⟨r, μ', he, h⟩ := h
  exact p_callV (cc3 c199_2) (Nat.le_of_ble_eq_true rfl) rfl rfl (Nat.le_of_ble_eq_true rfl) (ml_kd hΦ) he h
theorem B199_5 {ev : xV} {Q : Option Value → xM → Prop} {m : Nat} {Φ : (Nat → Nat → Int32) → xM} (hΦ : MLaw m Φ) {μ : Nat → Nat → Int32} {x1 x2 x3 x4 x5 s0 : Int32} (h : ((s0 = 0) → Q (some (.int ((-2)))) (Φ μ)) ∧ (¬ (s0 = 0) → (∃ r μ', ev 197 [.ref m, .int x2] (Φ μ) (some (.int r)) (Φ μ') ∧ wpE (xT 199) ev Q (13, [(0, .ref m), (1, .int x1), (2, .int x2), (3, .int x3), (4, .int x4), (5, .int x5)], [.int r], Φ μ')))) : wpE (xT 199) ev Q (5, [(0, .ref m), (1, .int x1), (2, .int x2), (3, .int x3), (4, .int x4), (5, .int x5)], [.int s0], Φ μ) := by
  refine p_if (cc3 c199_5) (fun c => ?_) (fun c => ?_)
  · have h := h.1 c
    refine p_lc (ls' := []) c199_38 rfl rfl ?_
    refine p_push (cct c199_38 rfl) ?_
    exact p_ri (cc3 c199_40) trivial h
  · have h := h.2 c
    refine p_ald (cc3 c199_8) rfl ?_
    refine p_ild (cc3 c199_9) rfl ?_
    obtain ⟨r, μ', he, h⟩ := h
    exact p_callV (cc3 c199_10) (Nat.le_of_ble_eq_true rfl) rfl rfl (Nat.le_of_ble_eq_true rfl) (ml_kd hΦ) he h
theorem B199_13 {ev : xV} {Q : Option Value → xM → Prop} {m : Nat} {Φ : (Nat → Nat → Int32) → xM} (hΦ : MLaw m Φ) {μ : Nat → Nat → Int32} {x1 x2 x3 x4 x5 s0 : Int32} (h : ((s0 = 0) → Q (some (.int ((-2)))) (Φ μ)) ∧ (¬ (s0 = 0) → (∃ r μ', ev 129 [.ref m, .int x3, .int 0, .int 2] (Φ μ) (some (.int r)) (Φ μ') ∧ wpE (xT 199) ev Q (23, [(0, .ref m), (1, .int x1), (2, .int x2), (3, .int x3), (4, .int x4), (5, .int x5)], [.int r], Φ μ')))) : wpE (xT 199) ev Q (13, [(0, .ref m), (1, .int x1), (2, .int x2), (3, .int x3), (4, .int x4), (5, .int x5)], [.int s0], Φ μ) := by
  refine p_if (cc3 c199_13) (fun c => ?_) (fun c => ?_)
  · have h := h.1 c
    refine p_lc (ls' := []) c199_38 rfl rfl ?_
    refine p_push (cct c199_38 rfl) ?_
    exact p_ri (cc3 c199_40) trivial h
  · have h := h.2 c
    refine p_ald (cc3 c199_16) rfl ?_
    refine p_ild (cc3 c199_17) rfl ?_
    refine p_push (cc3 c199_18) ?_
    refine p_push (cc3 c199_19) ?_
    obtain ⟨r, μ', he, h⟩ := h
    exact p_callV (cc3 c199_20) (Nat.le_of_ble_eq_true rfl) rfl rfl (Nat.le_of_ble_eq_true rfl) (ml_kd hΦ) he h
theorem B199_23 {ev : xV} {Q : Option Value → xM → Prop} {m : Nat} {Φ : (Nat → Nat → Int32) → xM} (hΦ : MLaw m Φ) {μ : Nat → Nat → Int32} {x1 x2 x3 x4 x5 s0 : Int32} (h : ((s0 = 0) → Q (some (.int ((-2)))) (Φ μ)) ∧ (¬ (s0 = 0) → (∃ r μ', ev 129 [.ref m, .int x5, .int 0, .int 20] (Φ μ) (some (.int r)) (Φ μ') ∧ wpE (xT 199) ev Q (35, [(0, .ref m), (1, .int x1), (2, .int x2), (3, .int x3), (4, .int x4), (5, .int x5)], [.int r], Φ μ')))) : wpE (xT 199) ev Q (23, [(0, .ref m), (1, .int x1), (2, .int x2), (3, .int x3), (4, .int x4), (5, .int x5)], [.int s0], Φ μ) := by
  refine p_if (cc3 c199_23) (fun c => ?_) (fun c => ?_)
  · have h := h.1 c
    refine p_lc (ls' := []) c199_38 rfl rfl ?_
    refine p_push (cct c199_38 rfl) ?_
    exact p_ri (cc3 c199_40) trivial h
  · have h := h.2 c
    refine p_ald (cc3 c199_26) rfl ?_
    refine p_ild (cc3 c199_27) rfl ?_
    refine p_push (cc3 c199_29) ?_
    refine p_push (cc3 c199_30) ?_
    obtain ⟨r, μ', he, h⟩ := h
    exact p_callV (cc3 c199_32) (Nat.le_of_ble_eq_true rfl) rfl rfl (Nat.le_of_ble_eq_true rfl) (ml_kd hΦ) he h
theorem B199_35 {ev : xV} {Q : Option Value → xM → Prop} {m : Nat} {Φ : (Nat → Nat → Int32) → xM} (hΦ : MLaw m Φ) {μ : Nat → Nat → Int32} {x1 x2 x3 x4 x5 s0 : Int32} (h : ((s0 = 0) → Q (some (.int ((-2)))) (Φ μ)) ∧ (¬ (s0 = 0) → vp_in x2 4 ∧ (((μ 43 x2.toNatClampNeg) < 0) → wpE (xT 199) ev Q (63, [(0, .ref m), (1, .int x1), (2, .int x2), (4, .int x4), (5, .int x5)], [], Φ μ)) ∧ (¬ ((μ 43 x2.toNatClampNeg) < 0) → vp_in x2 4 ∧ (((μ 43 x2.toNatClampNeg) = x3) → wpE (xT 199) ev Q (63, [(0, .ref m), (1, .int x1), (2, .int x2), (4, .int x4), (5, .int x5)], [], Φ μ)) ∧ (¬ ((μ 43 x2.toNatClampNeg) = x3) → Q (some (.int ((-13)))) (Φ μ))))) : wpE (xT 199) ev Q (35, [(0, .ref m), (1, .int x1), (2, .int x2), (3, .int x3), (4, .int x4), (5, .int x5)], [.int s0], Φ μ) := by
  refine p_if (cc3 c199_35) (fun c => ?_) (fun c => ?_)
  · have h := h.1 c
    refine p_lc (ls' := []) c199_38 rfl rfl ?_
    refine p_push (cct c199_38 rfl) ?_
    exact p_ri (cc3 c199_40) trivial h
  · have h := h.2 c
    refine p_ald (cc3 c199_41) rfl ?_
    refine pm_getp hΦ (cc3 c199_42) (c := 43) rfl (by decide) ?_
    refine p_ild (cc3 c199_45) rfl ?_
    obtain ⟨g, h⟩ := h
    refine pm_aldi hΦ (c := 43) (n := 4) (cc3 c199_46) (by decide) rfl rfl rfl g rfl ?_
    refine p_if (cc3 c199_47) (fun c => ?_) (fun c => ?_)
    · have h := h.1 c
      exact p_lc (ls' := [(0, .ref m), (1, .int x1), (2, .int x2), (4, .int x4), (5, .int x5)]) c199_63 rfl rfl h
    · have h := h.2 c
      refine p_ald (cc3 c199_50) rfl ?_
      refine pm_getp hΦ (cc3 c199_51) (c := 43) rfl (by decide) ?_
      refine p_ild (cc3 c199_54) rfl ?_
      obtain ⟨g, h⟩ := h
      refine pm_aldi hΦ (c := 43) (n := 4) (cc3 c199_55) (by decide) rfl rfl rfl g rfl ?_
      refine p_ild (cc3 c199_56) rfl ?_
      refine p_icmp (cc3 c199_57) (fun c => ?_) (fun c => ?_)
      · have h := h.1 c
        exact p_lc (ls' := [(0, .ref m), (1, .int x1), (2, .int x2), (4, .int x4), (5, .int x5)]) c199_63 rfl rfl h
      · have h := h.2 c
        refine p_push (cc3 c199_60) ?_
        exact p_ri (cc3 c199_62) trivial h
theorem B199_63 {ev : xV} {Q : Option Value → xM → Prop} {m : Nat} {Φ : (Nat → Nat → Int32) → xM} (hΦ : MLaw m Φ) {μ : Nat → Nat → Int32} {x1 x2 x4 x5 : Int32} (h : vp_in x2 4 ∧ ((0 ≤ (μ 43 x2.toNatClampNeg)) → wpE (xT 199) ev Q (81, [(0, .ref m), (1, .int x1), (2, .int x2), (4, .int x4), (5, .int x5), (6, .int 0), (7, .int 0)], [], Φ μ)) ∧ (¬ (0 ≤ (μ 43 x2.toNatClampNeg)) → Q (some (.int ((-11)))) (Φ μ))) : wpE (xT 199) ev Q (63, [(0, .ref m), (1, .int x1), (2, .int x2), (4, .int x4), (5, .int x5)], [], Φ μ) := by
  refine p_ald (cct c199_63 rfl) rfl ?_
  refine pm_getp hΦ (cc3 c199_64) (c := 43) rfl (by decide) ?_
  refine p_ild (cc3 c199_67) rfl ?_
  obtain ⟨g, h⟩ := h
  refine pm_aldi hΦ (c := 43) (n := 4) (cc3 c199_68) (by decide) rfl rfl rfl g rfl ?_
  refine p_if (cc3 c199_69) (fun c => ?_) (fun c => ?_)
  · have h := h.1 c
    refine p_push (cc3 c199_75) ?_
    refine p_ist (ls' := [(6, .int 0), (0, .ref m), (1, .int x1), (2, .int x2), (4, .int x4), (5, .int x5)]) (cc3 c199_76) (by decide) rfl ?_
    refine p_push (cc3 c199_78) ?_
    refine p_ist (ls' := [(7, .int 0), (6, .int 0), (0, .ref m), (1, .int x1), (2, .int x2), (4, .int x4), (5, .int x5)]) (cc3 c199_79) (by decide) rfl ?_
    exact p_lc (ls' := [(0, .ref m), (1, .int x1), (2, .int x2), (4, .int x4), (5, .int x5), (6, .int 0), (7, .int 0)]) c199_81 rfl rfl h
  · have h := h.2 c
    refine p_push (cc3 c199_72) ?_
    exact p_ri (cc3 c199_74) trivial h
theorem B199_81 {ev : xV} {Q : Option Value → xM → Prop} {m : Nat} {Φ : (Nat → Nat → Int32) → xM} (hΦ : MLaw m Φ) {μ : Nat → Nat → Int32} {x1 x2 x4 x5 x6 x7 : Int32} (h : ((x5 ≤ x7) → Q (some (.int x6)) (Φ μ)) ∧ (¬ (x5 ≤ x7) → ((x4 < 0) → Q (some (.int ((-12)))) (Φ μ)) ∧ (¬ (x4 < 0) → vp_in x2 4 ∧ ((x4 ≤ (((μ 44 x2.toNatClampNeg) - x7) - 1)) → vp_in (((40 * x2) + x4) + x7) 160 ∧ (∃ r μ', ev 142 [.ref m, .int x1, .int (μ 45 (((40 * x2) + x4) + x7).toNatClampNeg)] (Φ μ) (some (.int r)) (Φ μ') ∧ wpE (xT 199) ev Q (134, [(0, .ref m), (1, .int x1), (2, .int x2), (4, .int x4), (5, .int x5), (6, .int x6), (7, .int x7)], [.int r, .int x6], Φ μ'))) ∧ (¬ (x4 ≤ (((μ 44 x2.toNatClampNeg) - x7) - 1)) → Q (some (.int ((-12)))) (Φ μ))))) : wpE (xT 199) ev Q (81, [(0, .ref m), (1, .int x1), (2, .int x2), (4, .int x4), (5, .int x5), (6, .int x6), (7, .int x7)], [], Φ μ) := by
  refine p_ild (cct c199_81 rfl) rfl ?_
  refine p_ild (cc3 c199_83) rfl ?_
  refine p_icmp (cc3 c199_85) (fun c => ?_) (fun c => ?_)
  · have h := h.1 c
    refine p_ild (cc3 c199_151) rfl ?_
    exact p_ri (cc3 c199_153) trivial h
  · have h := h.2 c
    refine p_ild (cc3 c199_88) rfl ?_
    refine p_if (cc3 c199_90) (fun c => ?_) (fun c => ?_)
    · have h := h.1 c
      refine p_lc (ls' := []) c199_109 rfl rfl ?_
      refine p_push (cct c199_109 rfl) ?_
      exact p_ri (cc3 c199_111) trivial h
    · have h := h.2 c
      refine p_ild (cc3 c199_93) rfl ?_
      refine p_ald (cc3 c199_95) rfl ?_
      refine pm_getp hΦ (cc3 c199_96) (c := 44) rfl (by decide) ?_
      refine p_ild (cc3 c199_99) rfl ?_
      obtain ⟨g, h⟩ := h
      refine pm_aldi hΦ (c := 44) (n := 4) (cc3 c199_100) (by decide) rfl rfl rfl g rfl ?_
      refine p_ild (cc3 c199_101) rfl ?_
      refine p_bin (cc3 c199_103) ?_
      refine p_push (cc3 c199_104) ?_
      refine p_bin (cc3 c199_105) ?_
      refine p_icmp (cc3 c199_106) (fun c => ?_) (fun c => ?_)
      · have h := h.1 c
        refine p_ild (cc3 c199_112) rfl ?_
        refine p_ald (cc3 c199_114) rfl ?_
        refine p_ild (cc3 c199_115) rfl ?_
        refine p_ald (cc3 c199_116) rfl ?_
        refine pm_getp hΦ (cc3 c199_117) (c := 45) rfl (by decide) ?_
        refine p_push (cc3 c199_120) ?_
        refine p_ild (cc3 c199_122) rfl ?_
        refine p_bin (cc3 c199_123) ?_
        refine p_ild (cc3 c199_124) rfl ?_
        refine p_bin (cc3 c199_126) ?_
        refine p_ild (cc3 c199_127) rfl ?_
        refine p_bin (cc3 c199_129) ?_
        obtain ⟨g, h⟩ := h
        refine pm_aldi hΦ (c := 45) (n := 160) (cc3 c199_130) (by decide) rfl rfl rfl g rfl ?_
        obtain ⟨r, μ', he, h⟩ := h
        exact p_callV (cc3 c199_131) (Nat.le_of_ble_eq_true rfl) rfl rfl (Nat.le_of_ble_eq_true rfl) (ml_kd hΦ) he h
      · have h := h.2 c
        refine p_lc (ls' := []) c199_109 rfl rfl ?_
        refine p_push (cct c199_109 rfl) ?_
        exact p_ri (cc3 c199_111) trivial h
theorem B199_134 {ev : xV} {Q : Option Value → xM → Prop} {m : Nat} {Φ : (Nat → Nat → Int32) → xM} (hΦ : MLaw m Φ) {μ : Nat → Nat → Int32} {x1 x2 x4 x5 x6 x7 s0 s1 : Int32} (h : ((s0 < 0) → wpE (xT 199) ev Q (81, [(0, .ref m), (1, .int x1), (2, .int x2), (4, .int x4), (5, .int x5), (6, .int (s1 + 0)), (7, .int (x7 + 1))], [], Φ μ)) ∧ (¬ (s0 < 0) → wpE (xT 199) ev Q (81, [(0, .ref m), (1, .int x1), (2, .int x2), (4, .int x4), (5, .int x5), (6, .int (s1 + 1)), (7, .int (x7 + 1))], [], Φ μ))) : wpE (xT 199) ev Q (134, [(0, .ref m), (1, .int x1), (2, .int x2), (4, .int x4), (5, .int x5), (6, .int x6), (7, .int x7)], [.int s0, .int s1], Φ μ) := by
  refine p_if (cc3 c199_134) (fun c => ?_) (fun c => ?_)
  · have h := h.1 c
    refine p_push (cc3 c199_141) ?_
    refine p_lc (ls' := [(0, .ref m), (1, .int x1), (2, .int x2), (4, .int x4), (5, .int x5), (7, .int x7)]) c199_142 rfl rfl ?_
    refine p_bin (cct c199_142 rfl) ?_
    refine p_ist (ls' := [(6, .int (s1 + 0)), (0, .ref m), (1, .int x1), (2, .int x2), (4, .int x4), (5, .int x5), (7, .int x7)]) (cc3 c199_143) (by decide) rfl ?_
    refine p_iinc (y := x7 + 1) (ls' := [(7, .int (x7 + 1)), (6, .int (s1 + 0)), (0, .ref m), (1, .int x1), (2, .int x2), (4, .int x4), (5, .int x5)]) (cc3 c199_145) (by decide) rfl rfl rfl ?_
    refine p_goto (cc3 c199_148) ?_
    exact p_lc (ls' := [(0, .ref m), (1, .int x1), (2, .int x2), (4, .int x4), (5, .int x5), (6, .int (s1 + 0)), (7, .int (x7 + 1))]) c199_81 rfl rfl h
  · have h := h.2 c
    refine p_push (cc3 c199_137) ?_
    refine p_goto (cc3 c199_138) ?_
    refine p_lc (ls' := [(0, .ref m), (1, .int x1), (2, .int x2), (4, .int x4), (5, .int x5), (7, .int x7)]) c199_142 rfl rfl ?_
    refine p_bin (cct c199_142 rfl) ?_
    refine p_ist (ls' := [(6, .int (s1 + 1)), (0, .ref m), (1, .int x1), (2, .int x2), (4, .int x4), (5, .int x5), (7, .int x7)]) (cc3 c199_143) (by decide) rfl ?_
    refine p_iinc (y := x7 + 1) (ls' := [(7, .int (x7 + 1)), (6, .int (s1 + 1)), (0, .ref m), (1, .int x1), (2, .int x2), (4, .int x4), (5, .int x5)]) (cc3 c199_145) (by decide) rfl rfl rfl ?_
    refine p_goto (cc3 c199_148) ?_
    exact p_lc (ls' := [(0, .ref m), (1, .int x1), (2, .int x2), (4, .int x4), (5, .int x5), (6, .int (s1 + 1)), (7, .int (x7 + 1))]) c199_81 rfl rfl h
theorem B200_0 {ev : xV} {Q : Option Value → xM → Prop} {m : Nat} {Φ : (Nat → Nat → Int32) → xM} (hΦ : MLaw m Φ) {μ : Nat → Nat → Int32} {x1 x2 : Int32} (h : (∃ r μ', ev 129 [.ref m, .int x2, .int 0, .int 5] (Φ μ) (some (.int r)) (Φ μ') ∧ wpE (xT 200) ev Q (7, [(0, .ref m), (1, .int x1), (2, .int x2)], [.int r], Φ μ'))) : wpE (xT 200) ev Q (0, [(0, .ref m), (1, .int x1), (2, .int x2)], [], Φ μ) := by
  refine p_ald (cc3 c200_0) rfl ?_
  refine p_ild (cc3 c200_1) rfl ?_
  refine p_push (cc3 c200_2) ?_
  refine p_push (cc3 c200_3) ?_
  obtain ⟨r, μ', he, h⟩ := h
  exact p_callV (cc3 c200_4) (Nat.le_of_ble_eq_true rfl) rfl rfl (Nat.le_of_ble_eq_true rfl) (ml_kd hΦ) he h
theorem B200_7 {ev : xV} {Q : Option Value → xM → Prop} {m : Nat} {Φ : (Nat → Nat → Int32) → xM} (hΦ : MLaw m Φ) {μ : Nat → Nat → Int32} {x1 x2 s0 : Int32} (h : ((s0 = 0) → Q (some (.int ((-2)))) (Φ μ)) ∧ (¬ (s0 = 0) → (∃ r μ', ev 147 [.ref m, .int x1] (Φ μ) (some (.int r)) (Φ μ') ∧ wpE (xT 200) ev Q (18, [(0, .ref m), (1, .int x1), (2, .int x2)], [.int r], Φ μ')))) : wpE (xT 200) ev Q (7, [(0, .ref m), (1, .int x1), (2, .int x2)], [.int s0], Φ μ) := by
  refine p_if (cc3 c200_7) (fun c => ?_) (fun c => ?_)
  · have h := h.1 c
    refine p_push (cc3 c200_10) ?_
    exact p_ri (cc3 c200_12) trivial h
  · have h := h.2 c
    refine p_ald (cc3 c200_13) rfl ?_
    refine p_ild (cc3 c200_14) rfl ?_
    obtain ⟨r, μ', he, h⟩ := h
    exact p_callV (cc3 c200_15) (Nat.le_of_ble_eq_true rfl) rfl rfl (Nat.le_of_ble_eq_true rfl) (ml_kd hΦ) he h
theorem B200_18 {ev : xV} {Q : Option Value → xM → Prop} {m : Nat} {Φ : (Nat → Nat → Int32) → xM} (hΦ : MLaw m Φ) {μ : Nat → Nat → Int32} {x1 x2 s0 : Int32} (h : ((s0 = 0) → Q (some (.int ((-11)))) (Φ μ)) ∧ (¬ (s0 = 0) → vp_in x1 8 ∧ (∃ r μ', ev 201 [.ref m, .int (μ 11 x1.toNatClampNeg), .int x2] (Φ μ) (some (.int r)) (Φ μ') ∧ wpE (xT 200) ev Q (35, [(0, .ref m), (1, .int x1), (2, .int x2)], [.int r], Φ μ')))) : wpE (xT 200) ev Q (18, [(0, .ref m), (1, .int x1), (2, .int x2)], [.int s0], Φ μ) := by
  refine p_if (cc3 c200_18) (fun c => ?_) (fun c => ?_)
  · have h := h.1 c
    refine p_push (cc3 c200_21) ?_
    exact p_ri (cc3 c200_23) trivial h
  · have h := h.2 c
    refine p_ald (cc3 c200_24) rfl ?_
    refine p_ald (cc3 c200_25) rfl ?_
    refine pm_getp hΦ (cc3 c200_26) (c := 11) rfl (by decide) ?_
    refine p_ild (cc3 c200_29) rfl ?_
    obtain ⟨g, h⟩ := h
    refine pm_aldi hΦ (c := 11) (n := 8) (cc3 c200_30) (by decide) rfl rfl rfl g rfl ?_
    refine p_ild (cc3 c200_31) rfl ?_
    obtain ⟨r, μ', he, h⟩ := h
    exact p_callV (cc3 c200_32) (Nat.le_of_ble_eq_true rfl) rfl rfl (Nat.le_of_ble_eq_true rfl) (ml_kd hΦ) he h
theorem B200_35 {ev : xV} {Q : Option Value → xM → Prop} {m : Nat} {Φ : (Nat → Nat → Int32) → xM} (hΦ : MLaw m Φ) {μ : Nat → Nat → Int32} {x1 x2 s0 : Int32} (h : ((s0 = 0) → Q (some (.int ((-13)))) (Φ μ)) ∧ (¬ (s0 = 0) → vp_in x1 8 ∧ Q (some (.int (μ 17 x1.toNatClampNeg))) (Φ μ))) : wpE (xT 200) ev Q (35, [(0, .ref m), (1, .int x1), (2, .int x2)], [.int s0], Φ μ) := by
  refine p_if (cc3 c200_35) (fun c => ?_) (fun c => ?_)
  · have h := h.1 c
    refine p_push (cc3 c200_47) ?_
    refine p_lc (ls' := []) c200_49 rfl rfl ?_
    exact p_ri (cct c200_49 rfl) trivial h
  · have h := h.2 c
    refine p_ald (cc3 c200_38) rfl ?_
    refine pm_getp hΦ (cc3 c200_39) (c := 17) rfl (by decide) ?_
    refine p_ild (cc3 c200_42) rfl ?_
    obtain ⟨g, h⟩ := h
    refine pm_aldi hΦ (c := 17) (n := 8) (cc3 c200_43) (by decide) rfl rfl rfl g rfl ?_
    refine p_goto (cc3 c200_44) ?_
    refine p_lc (ls' := []) c200_49 rfl rfl ?_
    exact p_ri (cct c200_49 rfl) trivial h
theorem B201_0 {ev : xV} {Q : Option Value → xM → Prop} {m : Nat} {Φ : (Nat → Nat → Int32) → xM} (hΦ : MLaw m Φ) {μ : Nat → Nat → Int32} {x1 x2 : Int32} (h : ((x2 = 0) → Q (some (.int 1)) (Φ μ)) ∧ (¬ (x2 = 0) → ((x1 = x2) → Q (some (.int 1)) (Φ μ)) ∧ (¬ (x1 = x2) → ((x2 = 1) → ((x1 = 3) → Q (some (.int 1)) (Φ μ)) ∧ (¬ (x1 = 3) → ((x1 = 5) → Q (some (.int 1)) (Φ μ)) ∧ (¬ (x1 = 5) → wpE (xT 201) ev Q (24, [(1, .int x1), (2, .int x2)], [], Φ μ)))) ∧ (¬ (x2 = 1) → wpE (xT 201) ev Q (24, [(1, .int x1), (2, .int x2)], [], Φ μ))))) : wpE (xT 201) ev Q (0, [(0, .ref m), (1, .int x1), (2, .int x2)], [], Φ μ) := by
  refine p_ild (cc3 c201_0) rfl ?_
  refine p_if (cc3 c201_1) (fun c => ?_) (fun c => ?_)
  · have h := h.1 c
    refine p_lc (ls' := []) c201_44 rfl rfl ?_
    refine p_push (cct c201_44 rfl) ?_
    refine p_goto (cc3 c201_45) ?_
    exact p_ri (cct c201_49 rfl) (by decide) h
  · have h := h.2 c
    refine p_ild (cc3 c201_4) rfl ?_
    refine p_ild (cc3 c201_5) rfl ?_
    refine p_icmp (cc3 c201_6) (fun c => ?_) (fun c => ?_)
    · have h := h.1 c
      refine p_lc (ls' := []) c201_44 rfl rfl ?_
      refine p_push (cct c201_44 rfl) ?_
      refine p_goto (cc3 c201_45) ?_
      exact p_ri (cct c201_49 rfl) (by decide) h
    · have h := h.2 c
      refine p_ild (cc3 c201_9) rfl ?_
      refine p_push (cc3 c201_10) ?_
      refine p_icmp (cc3 c201_11) (fun c => ?_) (fun c => ?_)
      · have h := h.1 c
        refine p_ild (cc3 c201_14) rfl ?_
        refine p_push (cc3 c201_15) ?_
        refine p_icmp (cc3 c201_16) (fun c => ?_) (fun c => ?_)
        · have h := h.1 c
          refine p_lc (ls' := []) c201_44 rfl rfl ?_
          refine p_push (cct c201_44 rfl) ?_
          refine p_goto (cc3 c201_45) ?_
          exact p_ri (cct c201_49 rfl) (by decide) h
        · have h := h.2 c
          refine p_ild (cc3 c201_19) rfl ?_
          refine p_push (cc3 c201_20) ?_
          refine p_icmp (cc3 c201_21) (fun c => ?_) (fun c => ?_)
          · have h := h.1 c
            refine p_lc (ls' := []) c201_44 rfl rfl ?_
            refine p_push (cct c201_44 rfl) ?_
            refine p_goto (cc3 c201_45) ?_
            exact p_ri (cct c201_49 rfl) (by decide) h
          · have h := h.2 c
            exact p_lc (ls' := [(1, .int x1), (2, .int x2)]) c201_24 rfl rfl h
      · have h := h.2 c
        exact p_lc (ls' := [(1, .int x1), (2, .int x2)]) c201_24 rfl rfl h
theorem B201_24 {ev : xV} {Q : Option Value → xM → Prop} {m : Nat} {Φ : (Nat → Nat → Int32) → xM} (hΦ : MLaw m Φ) {μ : Nat → Nat → Int32} {x1 x2 : Int32} (h : ((x2 = 2) → ((x1 = 4) → Q (some (.int 1)) (Φ μ)) ∧ (¬ (x1 = 4) → wpE (xT 201) ev Q (34, [(1, .int x1), (2, .int x2)], [], Φ μ))) ∧ (¬ (x2 = 2) → wpE (xT 201) ev Q (34, [(1, .int x1), (2, .int x2)], [], Φ μ))) : wpE (xT 201) ev Q (24, [(1, .int x1), (2, .int x2)], [], Φ μ) := by
  refine p_ild (cct c201_24 rfl) rfl ?_
  refine p_push (cc3 c201_25) ?_
  refine p_icmp (cc3 c201_26) (fun c => ?_) (fun c => ?_)
  · have h := h.1 c
    refine p_ild (cc3 c201_29) rfl ?_
    refine p_push (cc3 c201_30) ?_
    refine p_icmp (cc3 c201_31) (fun c => ?_) (fun c => ?_)
    · have h := h.1 c
      refine p_lc (ls' := []) c201_44 rfl rfl ?_
      refine p_push (cct c201_44 rfl) ?_
      refine p_goto (cc3 c201_45) ?_
      exact p_ri (cct c201_49 rfl) (by decide) h
    · have h := h.2 c
      exact h
  · have h := h.2 c
    exact h
theorem B201_34 {ev : xV} {Q : Option Value → xM → Prop} {m : Nat} {Φ : (Nat → Nat → Int32) → xM} (hΦ : MLaw m Φ) {μ : Nat → Nat → Int32} {x1 x2 : Int32} (h : ((x2 = 3) → ((x1 = 5) → Q (some (.int 1)) (Φ μ)) ∧ (¬ (x1 = 5) → Q (some (.int 0)) (Φ μ))) ∧ (¬ (x2 = 3) → Q (some (.int 0)) (Φ μ))) : wpE (xT 201) ev Q (34, [(1, .int x1), (2, .int x2)], [], Φ μ) := by
  refine p_ild (cct c201_34 rfl) rfl ?_
  refine p_push (cc3 c201_35) ?_
  refine p_icmp (cc3 c201_36) (fun c => ?_) (fun c => ?_)
  · have h := h.1 c
    refine p_ild (cc3 c201_39) rfl ?_
    refine p_push (cc3 c201_40) ?_
    refine p_icmp (cc3 c201_41) (fun c => ?_) (fun c => ?_)
    · have h := h.1 c
      refine p_lc (ls' := []) c201_44 rfl rfl ?_
      refine p_push (cct c201_44 rfl) ?_
      refine p_goto (cc3 c201_45) ?_
      exact p_ri (cct c201_49 rfl) (by decide) h
    · have h := h.2 c
      refine p_lc (ls' := []) c201_48 rfl rfl ?_
      refine p_push (cct c201_48 rfl) ?_
      exact p_ri (cct c201_49 rfl) (by decide) h
  · have h := h.2 c
    refine p_lc (ls' := []) c201_48 rfl rfl ?_
    refine p_push (cct c201_48 rfl) ?_
    exact p_ri (cct c201_49 rfl) (by decide) h
