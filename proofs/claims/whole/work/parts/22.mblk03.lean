theorem B161_0 {ev : xV} {Q : Option Value → xM → Prop} {m : Nat} {Φ : (Nat → Nat → Int32) → xM} (hΦ : MLaw m Φ) {μ : Nat → Nat → Int32} {x1 x2 x3 : Int32} (h : (∃ r μ', ev 147 [.ref m, .int x1] (Φ μ) (some (.int r)) (Φ μ') ∧ wpE (xT 161) ev Q (5, [(0, .ref m), (1, .int x1), (2, .int x2), (3, .int x3)], [.int r], Φ μ'))) : wpE (xT 161) ev Q (0, [(0, .ref m), (1, .int x1), (2, .int x2), (3, .int x3)], [], Φ μ) := by
  refine p_ald (cc3 c161_0) rfl ?_
  refine p_ild (cc3 c161_1) rfl ?_
  obtain ⟨r, μ', he, h⟩ := h
  exact p_callV (cc3 c161_2) (Nat.le_of_ble_eq_true rfl) rfl rfl (Nat.le_of_ble_eq_true rfl) (ml_kd hΦ) he h
theorem B161_5 {ev : xV} {Q : Option Value → xM → Prop} {m : Nat} {Φ : (Nat → Nat → Int32) → xM} (hΦ : MLaw m Φ) {μ : Nat → Nat → Int32} {x1 x2 x3 s0 : Int32} (h : ((s0 = 0) → Q (some (.int ((-2)))) (Φ μ)) ∧ (¬ (s0 = 0) → vp_in x1 8 ∧ (∃ r μ', ev 129 [.ref m, .int x2, .int 0, .int ((μ 15 x1.toNatClampNeg) - 1)] (Φ μ) (some (.int r)) (Φ μ') ∧ wpE (xT 161) ev Q (22, [(0, .ref m), (1, .int x1), (2, .int x2), (3, .int x3)], [.int r], Φ μ')))) : wpE (xT 161) ev Q (5, [(0, .ref m), (1, .int x1), (2, .int x2), (3, .int x3)], [.int s0], Φ μ) := by
  refine p_if (cc3 c161_5) (fun c => ?_) (fun c => ?_)
  · have h := h.1 c
    refine p_lc (ls' := []) c161_35 rfl rfl ?_
    refine p_push (cct c161_35 rfl) ?_
    exact p_ri (cc3 c161_37) trivial h
  · have h := h.2 c
    refine p_ald (cc3 c161_8) rfl ?_
    refine p_ild (cc3 c161_9) rfl ?_
    refine p_push (cc3 c161_10) ?_
    refine p_ald (cc3 c161_11) rfl ?_
    refine pm_getp hΦ (cc3 c161_12) (c := 15) rfl (by decide) ?_
    refine p_ild (cc3 c161_15) rfl ?_
    obtain ⟨g, h⟩ := h
    refine pm_aldi hΦ (c := 15) (n := 8) (cc3 c161_16) (by decide) rfl rfl rfl g rfl ?_
    refine p_push (cc3 c161_17) ?_
    refine p_bin (cc3 c161_18) ?_
    obtain ⟨r, μ', he, h⟩ := h
    exact p_callV (cc3 c161_19) (Nat.le_of_ble_eq_true rfl) rfl rfl (Nat.le_of_ble_eq_true rfl) (ml_kd hΦ) he h
theorem B161_22 {ev : xV} {Q : Option Value → xM → Prop} {m : Nat} {Φ : (Nat → Nat → Int32) → xM} (hΦ : MLaw m Φ) {μ : Nat → Nat → Int32} {x1 x2 x3 s0 : Int32} (h : ((s0 = 0) → Q (some (.int ((-2)))) (Φ μ)) ∧ (¬ (s0 = 0) → (∃ r μ', ev 129 [.ref m, .int x3, .int 0, .int 3] (Φ μ) (some (.int r)) (Φ μ') ∧ wpE (xT 161) ev Q (32, [(0, .ref m), (1, .int x1), (2, .int x2), (3, .int x3)], [.int r], Φ μ')))) : wpE (xT 161) ev Q (22, [(0, .ref m), (1, .int x1), (2, .int x2), (3, .int x3)], [.int s0], Φ μ) := by
  refine p_if (cc3 c161_22) (fun c => ?_) (fun c => ?_)
  · have h := h.1 c
    refine p_lc (ls' := []) c161_35 rfl rfl ?_
    refine p_push (cct c161_35 rfl) ?_
    exact p_ri (cc3 c161_37) trivial h
  · have h := h.2 c
    refine p_ald (cc3 c161_25) rfl ?_
    refine p_ild (cc3 c161_26) rfl ?_
    refine p_push (cc3 c161_27) ?_
    refine p_push (cc3 c161_28) ?_
    obtain ⟨r, μ', he, h⟩ := h
    exact p_callV (cc3 c161_29) (Nat.le_of_ble_eq_true rfl) rfl rfl (Nat.le_of_ble_eq_true rfl) (ml_kd hΦ) he h
theorem B161_32 {ev : xV} {Q : Option Value → xM → Prop} {m : Nat} {Φ : (Nat → Nat → Int32) → xM} (hΦ : MLaw m Φ) {μ : Nat → Nat → Int32} {x1 x2 x3 s0 : Int32} (h : ((s0 = 0) → Q (some (.int ((-2)))) (Φ μ)) ∧ (¬ (s0 = 0) → ((x3 = 2) → (∃ r μ', ev 162 [.ref m, .int x1, .int x2] (Φ μ) (some (.int r)) (Φ μ') ∧ wpE (xT 161) ev Q (49, [(0, .ref m), (1, .int x1), (2, .int x2), (3, .int x3)], [.int r], Φ μ'))) ∧ (¬ (x3 = 2) → (∃ r μ', ev 160 [.ref m, .int x1] (Φ μ) (some (.int r)) (Φ μ') ∧ wpE (xT 161) ev Q (55, [(0, .ref m), (1, .int x1), (2, .int x2), (3, .int x3)], [.int r], Φ μ'))))) : wpE (xT 161) ev Q (32, [(0, .ref m), (1, .int x1), (2, .int x2), (3, .int x3)], [.int s0], Φ μ) := by
  refine p_if (cc3 c161_32) (fun c => ?_) (fun c => ?_)
  · have h := h.1 c
    refine p_lc (ls' := []) c161_35 rfl rfl ?_
    refine p_push (cct c161_35 rfl) ?_
    exact p_ri (cc3 c161_37) trivial h
  · have h := h.2 c
    refine p_ild (cc3 c161_38) rfl ?_
    refine p_push (cc3 c161_39) ?_
    refine p_icmp (cc3 c161_40) (fun c => ?_) (fun c => ?_)
    · have h := h.1 c
      refine p_ald (cc3 c161_43) rfl ?_
      refine p_ild (cc3 c161_44) rfl ?_
      refine p_ild (cc3 c161_45) rfl ?_
      obtain ⟨r, μ', he, h⟩ := h
      exact p_callV (cc3 c161_46) (Nat.le_of_ble_eq_true rfl) rfl rfl (Nat.le_of_ble_eq_true rfl) (ml_kd hΦ) he h
    · have h := h.2 c
      refine p_ald (cc3 c161_50) rfl ?_
      refine p_ild (cc3 c161_51) rfl ?_
      obtain ⟨r, μ', he, h⟩ := h
      exact p_callV (cc3 c161_52) (Nat.le_of_ble_eq_true rfl) rfl rfl (Nat.le_of_ble_eq_true rfl) (ml_kd hΦ) he h
theorem B161_49 {ev : xV} {Q : Option Value → xM → Prop} {m : Nat} {Φ : (Nat → Nat → Int32) → xM} (hΦ : MLaw m Φ) {μ : Nat → Nat → Int32} {x1 x2 x3 s0 : Int32} (h : Q (some (.int s0)) (Φ μ)) : wpE (xT 161) ev Q (49, [(0, .ref m), (1, .int x1), (2, .int x2), (3, .int x3)], [.int s0], Φ μ) := by
  exact p_ri (cc3 c161_49) trivial h
theorem B161_55 {ev : xV} {Q : Option Value → xM → Prop} {m : Nat} {Φ : (Nat → Nat → Int32) → xM} (hΦ : MLaw m Φ) {μ : Nat → Nat → Int32} {x1 x2 x3 s0 : Int32} (h : ((s0 = 0) → Q (some (.int ((-3)))) (Φ μ)) ∧ (¬ (s0 = 0) → ((x3 = 0) → vp_in ((24 * x1) + x2) 192 ∧ Q (some (.int (μ 26 ((24 * x1) + x2).toNatClampNeg))) (Φ μ)) ∧ (¬ (x3 = 0) → ((x3 = 1) → vp_in ((24 * x1) + x2) 192 ∧ Q (some (.int (μ 27 ((24 * x1) + x2).toNatClampNeg))) (Φ μ)) ∧ (¬ (x3 = 1) → (∃ r μ', ev 163 [.ref m, .int x1, .int x2] (Φ μ) (some (.int r)) (Φ μ') ∧ wpE (xT 161) ev Q (104, [(0, .ref m), (1, .int x1), (2, .int x2), (3, .int x3)], [.int r], Φ μ')))))) : wpE (xT 161) ev Q (55, [(0, .ref m), (1, .int x1), (2, .int x2), (3, .int x3)], [.int s0], Φ μ) := by
  refine p_if (cc3 c161_55) (fun c => ?_) (fun c => ?_)
  · have h := h.1 c
    refine p_push (cc3 c161_58) ?_
    exact p_ri (cc3 c161_60) trivial h
  · have h := h.2 c
    refine p_ild (cc3 c161_61) rfl ?_
    refine p_if (cc3 c161_62) (fun c => ?_) (fun c => ?_)
    · have h := h.1 c
      refine p_ald (cc3 c161_65) rfl ?_
      refine pm_getp hΦ (cc3 c161_66) (c := 26) rfl (by decide) ?_
      refine p_push (cc3 c161_69) ?_
      refine p_ild (cc3 c161_71) rfl ?_
      refine p_bin (cc3 c161_72) ?_
      refine p_ild (cc3 c161_73) rfl ?_
      refine p_bin (cc3 c161_74) ?_
      obtain ⟨g, h⟩ := h
      refine pm_aldi hΦ (c := 26) (n := 192) (cc3 c161_75) (by decide) rfl rfl rfl g rfl ?_
      refine p_goto (cc3 c161_76) ?_
      refine p_lc (ls' := []) c161_123 rfl rfl ?_
      exact p_ri (cct c161_123 rfl) trivial h
    · have h := h.2 c
      refine p_ild (cc3 c161_79) rfl ?_
      refine p_push (cc3 c161_80) ?_
      refine p_icmp (cc3 c161_81) (fun c => ?_) (fun c => ?_)
      · have h := h.1 c
        refine p_ald (cc3 c161_84) rfl ?_
        refine pm_getp hΦ (cc3 c161_85) (c := 27) rfl (by decide) ?_
        refine p_push (cc3 c161_88) ?_
        refine p_ild (cc3 c161_90) rfl ?_
        refine p_bin (cc3 c161_91) ?_
        refine p_ild (cc3 c161_92) rfl ?_
        refine p_bin (cc3 c161_93) ?_
        obtain ⟨g, h⟩ := h
        refine pm_aldi hΦ (c := 27) (n := 192) (cc3 c161_94) (by decide) rfl rfl rfl g rfl ?_
        refine p_goto (cc3 c161_95) ?_
        refine p_lc (ls' := []) c161_123 rfl rfl ?_
        exact p_ri (cct c161_123 rfl) trivial h
      · have h := h.2 c
        refine p_ald (cc3 c161_98) rfl ?_
        refine p_ild (cc3 c161_99) rfl ?_
        refine p_ild (cc3 c161_100) rfl ?_
        obtain ⟨r, μ', he, h⟩ := h
        exact p_callV (cc3 c161_101) (Nat.le_of_ble_eq_true rfl) rfl rfl (Nat.le_of_ble_eq_true rfl) (ml_kd hΦ) he h
theorem B161_104 {ev : xV} {Q : Option Value → xM → Prop} {m : Nat} {Φ : (Nat → Nat → Int32) → xM} (hΦ : MLaw m Φ) {μ : Nat → Nat → Int32} {x1 x2 x3 s0 : Int32} (h : vp_in ((24 * x1) + x2) 192 ∧ vp_in x1 8 ∧ Q (some (.int ((s0 - (μ 26 ((24 * x1) + x2).toNatClampNeg)) - (μ 25 x1.toNatClampNeg)))) (Φ μ)) : wpE (xT 161) ev Q (104, [(0, .ref m), (1, .int x1), (2, .int x2), (3, .int x3)], [.int s0], Φ μ) := by
  refine p_ald (cc3 c161_104) rfl ?_
  refine pm_getp hΦ (cc3 c161_105) (c := 26) rfl (by decide) ?_
  refine p_push (cc3 c161_108) ?_
  refine p_ild (cc3 c161_110) rfl ?_
  refine p_bin (cc3 c161_111) ?_
  refine p_ild (cc3 c161_112) rfl ?_
  refine p_bin (cc3 c161_113) ?_
  obtain ⟨g, h⟩ := h
  refine pm_aldi hΦ (c := 26) (n := 192) (cc3 c161_114) (by decide) rfl rfl rfl g rfl ?_
  refine p_bin (cc3 c161_115) ?_
  refine p_ald (cc3 c161_116) rfl ?_
  refine pm_getp hΦ (cc3 c161_117) (c := 25) rfl (by decide) ?_
  refine p_ild (cc3 c161_120) rfl ?_
  obtain ⟨g, h⟩ := h
  refine pm_aldi hΦ (c := 25) (n := 8) (cc3 c161_121) (by decide) rfl rfl rfl g rfl ?_
  refine p_bin (cc3 c161_122) ?_
  refine p_lc (ls' := []) c161_123 rfl rfl ?_
  exact p_ri (cct c161_123 rfl) trivial h
theorem B162_0 {ev : xV} {Q : Option Value → xM → Prop} {m : Nat} {Φ : (Nat → Nat → Int32) → xM} (hΦ : MLaw m Φ) {μ : Nat → Nat → Int32} {x1 x2 : Int32} (h : vp_in x1 8 ∧ vp_in x1 8 ∧ (¬ (μ 15 x1.toNatClampNeg) = 0) ∧ vp_in x1 8 ∧ vp_in x1 8 ∧ (¬ (μ 15 x1.toNatClampNeg) = 0) ∧ Q (some (.int ((((x2 + 1) * (μ 19 x1.toNatClampNeg)) / (μ 15 x1.toNatClampNeg)) - ((x2 * (μ 19 x1.toNatClampNeg)) / (μ 15 x1.toNatClampNeg))))) (Φ μ)) : wpE (xT 162) ev Q (0, [(0, .ref m), (1, .int x1), (2, .int x2)], [], Φ μ) := by
  refine p_ild (cc3 c162_0) rfl ?_
  refine p_push (cc3 c162_1) ?_
  refine p_bin (cc3 c162_2) ?_
  refine p_ald (cc3 c162_3) rfl ?_
  refine pm_getp hΦ (cc3 c162_4) (c := 19) rfl (by decide) ?_
  refine p_ild (cc3 c162_7) rfl ?_
  obtain ⟨g, h⟩ := h
  refine pm_aldi hΦ (c := 19) (n := 8) (cc3 c162_8) (by decide) rfl rfl rfl g rfl ?_
  refine p_bin (cc3 c162_9) ?_
  refine p_ald (cc3 c162_10) rfl ?_
  refine pm_getp hΦ (cc3 c162_11) (c := 15) rfl (by decide) ?_
  refine p_ild (cc3 c162_14) rfl ?_
  obtain ⟨g, h⟩ := h
  refine pm_aldi hΦ (c := 15) (n := 8) (cc3 c162_15) (by decide) rfl rfl rfl g rfl ?_
  obtain ⟨g, h⟩ := h
  refine p_div (cc3 c162_16) g ?_
  refine p_ild (cc3 c162_17) rfl ?_
  refine p_ald (cc3 c162_18) rfl ?_
  refine pm_getp hΦ (cc3 c162_19) (c := 19) rfl (by decide) ?_
  refine p_ild (cc3 c162_22) rfl ?_
  obtain ⟨g, h⟩ := h
  refine pm_aldi hΦ (c := 19) (n := 8) (cc3 c162_23) (by decide) rfl rfl rfl g rfl ?_
  refine p_bin (cc3 c162_24) ?_
  refine p_ald (cc3 c162_25) rfl ?_
  refine pm_getp hΦ (cc3 c162_26) (c := 15) rfl (by decide) ?_
  refine p_ild (cc3 c162_29) rfl ?_
  obtain ⟨g, h⟩ := h
  refine pm_aldi hΦ (c := 15) (n := 8) (cc3 c162_30) (by decide) rfl rfl rfl g rfl ?_
  obtain ⟨g, h⟩ := h
  refine p_div (cc3 c162_31) g ?_
  refine p_bin (cc3 c162_32) ?_
  exact p_ri (cc3 c162_33) trivial h
theorem B163_0 {ev : xV} {Q : Option Value → xM → Prop} {m : Nat} {Φ : (Nat → Nat → Int32) → xM} (hΦ : MLaw m Φ) {μ : Nat → Nat → Int32} {x1 x2 : Int32} (h : vp_in x1 8 ∧ (((μ 15 x1.toNatClampNeg) ≤ (x2 + 1)) → vp_in x1 8 ∧ Q (some (.int (μ 22 x1.toNatClampNeg))) (Φ μ)) ∧ (¬ ((μ 15 x1.toNatClampNeg) ≤ (x2 + 1)) → vp_in (((24 * x1) + x2) + 1) 192 ∧ Q (some (.int (μ 26 (((24 * x1) + x2) + 1).toNatClampNeg))) (Φ μ))) : wpE (xT 163) ev Q (0, [(0, .ref m), (1, .int x1), (2, .int x2)], [], Φ μ) := by
  refine p_ild (cc3 c163_0) rfl ?_
  refine p_push (cc3 c163_1) ?_
  refine p_bin (cc3 c163_2) ?_
  refine p_ald (cc3 c163_3) rfl ?_
  refine pm_getp hΦ (cc3 c163_4) (c := 15) rfl (by decide) ?_
  refine p_ild (cc3 c163_7) rfl ?_
  obtain ⟨g, h⟩ := h
  refine pm_aldi hΦ (c := 15) (n := 8) (cc3 c163_8) (by decide) rfl rfl rfl g rfl ?_
  refine p_icmp (cc3 c163_9) (fun c => ?_) (fun c => ?_)
  · have h := h.1 c
    refine p_ald (cc3 c163_28) rfl ?_
    refine pm_getp hΦ (cc3 c163_29) (c := 22) rfl (by decide) ?_
    refine p_ild (cc3 c163_32) rfl ?_
    obtain ⟨g, h⟩ := h
    refine pm_aldi hΦ (c := 22) (n := 8) (cc3 c163_33) (by decide) rfl rfl rfl g rfl ?_
    refine p_lc (ls' := []) c163_34 rfl rfl ?_
    exact p_ri (cct c163_34 rfl) trivial h
  · have h := h.2 c
    refine p_ald (cc3 c163_12) rfl ?_
    refine pm_getp hΦ (cc3 c163_13) (c := 26) rfl (by decide) ?_
    refine p_push (cc3 c163_16) ?_
    refine p_ild (cc3 c163_18) rfl ?_
    refine p_bin (cc3 c163_19) ?_
    refine p_ild (cc3 c163_20) rfl ?_
    refine p_bin (cc3 c163_21) ?_
    refine p_push (cc3 c163_22) ?_
    refine p_bin (cc3 c163_23) ?_
    obtain ⟨g, h⟩ := h
    refine pm_aldi hΦ (c := 26) (n := 192) (cc3 c163_24) (by decide) rfl rfl rfl g rfl ?_
    refine p_goto (cc3 c163_25) ?_
    refine p_lc (ls' := []) c163_34 rfl rfl ?_
    exact p_ri (cct c163_34 rfl) trivial h
theorem B164_0 {ev : xV} {Q : Option Value → xM → Prop} {m : Nat} {Φ : (Nat → Nat → Int32) → xM} (hΦ : MLaw m Φ) {μ : Nat → Nat → Int32} {x1 x2 x3 : Int32} (h : (∃ r μ', ev 147 [.ref m, .int x1] (Φ μ) (some (.int r)) (Φ μ') ∧ wpE (xT 164) ev Q (5, [(0, .ref m), (1, .int x1), (2, .int x2), (3, .int x3)], [.int r], Φ μ'))) : wpE (xT 164) ev Q (0, [(0, .ref m), (1, .int x1), (2, .int x2), (3, .int x3)], [], Φ μ) := by
  refine p_ald (cc3 c164_0) rfl ?_
  refine p_ild (cc3 c164_1) rfl ?_
  obtain ⟨r, μ', he, h⟩ := h
  exact p_callV (cc3 c164_2) (Nat.le_of_ble_eq_true rfl) rfl rfl (Nat.le_of_ble_eq_true rfl) (ml_kd hΦ) he h
theorem B164_5 {ev : xV} {Q : Option Value → xM → Prop} {m : Nat} {Φ : (Nat → Nat → Int32) → xM} (hΦ : MLaw m Φ) {μ : Nat → Nat → Int32} {x1 x2 x3 s0 : Int32} (h : ((s0 = 0) → Q (some (.int ((-2)))) (Φ μ)) ∧ (¬ (s0 = 0) → (∃ r μ', ev 160 [.ref m, .int x1] (Φ μ) (some (.int r)) (Φ μ') ∧ wpE (xT 164) ev Q (16, [(0, .ref m), (1, .int x1), (2, .int x2), (3, .int x3)], [.int r], Φ μ')))) : wpE (xT 164) ev Q (5, [(0, .ref m), (1, .int x1), (2, .int x2), (3, .int x3)], [.int s0], Φ μ) := by
  refine p_if (cc3 c164_5) (fun c => ?_) (fun c => ?_)
  · have h := h.1 c
    refine p_push (cc3 c164_8) ?_
    exact p_ri (cc3 c164_10) trivial h
  · have h := h.2 c
    refine p_ald (cc3 c164_11) rfl ?_
    refine p_ild (cc3 c164_12) rfl ?_
    obtain ⟨r, μ', he, h⟩ := h
    exact p_callV (cc3 c164_13) (Nat.le_of_ble_eq_true rfl) rfl rfl (Nat.le_of_ble_eq_true rfl) (ml_kd hΦ) he h
theorem B164_16 {ev : xV} {Q : Option Value → xM → Prop} {m : Nat} {Φ : (Nat → Nat → Int32) → xM} (hΦ : MLaw m Φ) {μ : Nat → Nat → Int32} {x1 x2 x3 s0 : Int32} (h : ((s0 = 0) → Q (some (.int ((-3)))) (Φ μ)) ∧ (¬ (s0 = 0) → (∃ r μ', ev 165 [.ref m, .int x1, .int x3] (Φ μ) (some (.int r)) (Φ μ') ∧ wpE (xT 164) ev Q (31, [(0, .ref m), (1, .int x1), (2, .int x2), (3, .int x3)], [.int r, .int 0, .int x2, .ref m], Φ μ')))) : wpE (xT 164) ev Q (16, [(0, .ref m), (1, .int x1), (2, .int x2), (3, .int x3)], [.int s0], Φ μ) := by
  refine p_if (cc3 c164_16) (fun c => ?_) (fun c => ?_)
  · have h := h.1 c
    refine p_push (cc3 c164_19) ?_
    exact p_ri (cc3 c164_21) trivial h
  · have h := h.2 c
    refine p_ald (cc3 c164_22) rfl ?_
    refine p_ild (cc3 c164_23) rfl ?_
    refine p_push (cc3 c164_24) ?_
    refine p_ald (cc3 c164_25) rfl ?_
    refine p_ild (cc3 c164_26) rfl ?_
    refine p_ild (cc3 c164_27) rfl ?_
    obtain ⟨r, μ', he, h⟩ := h
    exact p_callV (cc3 c164_28) (Nat.le_of_ble_eq_true rfl) rfl rfl (Nat.le_of_ble_eq_true rfl) (ml_kd hΦ) he h
theorem B164_31 {ev : xV} {Q : Option Value → xM → Prop} {m : Nat} {Φ : (Nat → Nat → Int32) → xM} (hΦ : MLaw m Φ) {μ : Nat → Nat → Int32} {x1 x2 x3 s0 s1 s2 : Int32} (h : (∃ r μ', ev 129 [.ref m, .int s2, .int s1, .int (s0 - 1)] (Φ μ) (some (.int r)) (Φ μ') ∧ wpE (xT 164) ev Q (36, [(0, .ref m), (1, .int x1), (2, .int x2), (3, .int x3)], [.int r], Φ μ'))) : wpE (xT 164) ev Q (31, [(0, .ref m), (1, .int x1), (2, .int x2), (3, .int x3)], [.int s0, .int s1, .int s2, .ref m], Φ μ) := by
  refine p_push (cc3 c164_31) ?_
  refine p_bin (cc3 c164_32) ?_
  obtain ⟨r, μ', he, h⟩ := h
  exact p_callV (cc3 c164_33) (Nat.le_of_ble_eq_true rfl) rfl rfl (Nat.le_of_ble_eq_true rfl) (ml_kd hΦ) he h
theorem B164_36 {ev : xV} {Q : Option Value → xM → Prop} {m : Nat} {Φ : (Nat → Nat → Int32) → xM} (hΦ : MLaw m Φ) {μ : Nat → Nat → Int32} {x1 x2 x3 s0 : Int32} (h : ((s0 = 0) → Q (some (.int ((-1)))) (Φ μ)) ∧ (¬ (s0 = 0) → vp_in x1 8 ∧ (((μ 28 x1.toNatClampNeg) = 0) → wpE (xT 164) ev Q (69, [(0, .ref m), (1, .int x1), (3, .int x3), (4, .int x2), (5, .int 0)], [], Φ μ)) ∧ (¬ ((μ 28 x1.toNatClampNeg) = 0) → (∃ r μ', ev 165 [.ref m, .int x1, .int x3] (Φ μ) (some (.int r)) (Φ μ') ∧ wpE (xT 164) ev Q (56, [(0, .ref m), (1, .int x1), (2, .int x2), (3, .int x3)], [.int r], Φ μ'))))) : wpE (xT 164) ev Q (36, [(0, .ref m), (1, .int x1), (2, .int x2), (3, .int x3)], [.int s0], Φ μ) := by
  refine p_if (cc3 c164_36) (fun c => ?_) (fun c => ?_)
  · have h := h.1 c
    refine p_push (cc3 c164_39) ?_
    exact p_ri (cc3 c164_40) trivial h
  · have h := h.2 c
    refine p_ald (cc3 c164_41) rfl ?_
    refine pm_getp hΦ (cc3 c164_42) (c := 28) rfl (by decide) ?_
    refine p_ild (cc3 c164_45) rfl ?_
    obtain ⟨g, h⟩ := h
    refine pm_aldi hΦ (c := 28) (n := 8) (cc3 c164_46) (by decide) rfl rfl rfl g rfl ?_
    refine p_if (cc3 c164_47) (fun c => ?_) (fun c => ?_)
    · have h := h.1 c
      refine p_ild (cc3 c164_63) rfl ?_
      refine p_lc (ls' := [(0, .ref m), (1, .int x1), (3, .int x3)]) c164_64 rfl rfl ?_
      refine p_ist (ls' := [(4, .int x2), (0, .ref m), (1, .int x1), (3, .int x3)]) (cct c164_64 rfl) (by decide) rfl ?_
      refine p_push (cc3 c164_66) ?_
      refine p_ist (ls' := [(5, .int 0), (4, .int x2), (0, .ref m), (1, .int x1), (3, .int x3)]) (cc3 c164_67) (by decide) rfl ?_
      exact p_lc (ls' := [(0, .ref m), (1, .int x1), (3, .int x3), (4, .int x2), (5, .int 0)]) c164_69 rfl rfl h
    · have h := h.2 c
      refine p_ald (cc3 c164_50) rfl ?_
      refine p_ild (cc3 c164_51) rfl ?_
      refine p_ild (cc3 c164_52) rfl ?_
      obtain ⟨r, μ', he, h⟩ := h
      exact p_callV (cc3 c164_53) (Nat.le_of_ble_eq_true rfl) rfl rfl (Nat.le_of_ble_eq_true rfl) (ml_kd hΦ) he h
theorem B164_56 {ev : xV} {Q : Option Value → xM → Prop} {m : Nat} {Φ : (Nat → Nat → Int32) → xM} (hΦ : MLaw m Φ) {μ : Nat → Nat → Int32} {x1 x2 x3 s0 : Int32} (h : wpE (xT 164) ev Q (69, [(0, .ref m), (1, .int x1), (3, .int x3), (4, .int ((s0 - 1) - x2)), (5, .int 0)], [], Φ μ)) : wpE (xT 164) ev Q (56, [(0, .ref m), (1, .int x1), (2, .int x2), (3, .int x3)], [.int s0], Φ μ) := by
  refine p_push (cc3 c164_56) ?_
  refine p_bin (cc3 c164_57) ?_
  refine p_ild (cc3 c164_58) rfl ?_
  refine p_bin (cc3 c164_59) ?_
  refine p_goto (cc3 c164_60) ?_
  refine p_lc (ls' := [(0, .ref m), (1, .int x1), (3, .int x3)]) c164_64 rfl rfl ?_
  refine p_ist (ls' := [(4, .int ((s0 - 1) - x2)), (0, .ref m), (1, .int x1), (3, .int x3)]) (cct c164_64 rfl) (by decide) rfl ?_
  refine p_push (cc3 c164_66) ?_
  refine p_ist (ls' := [(5, .int 0), (4, .int ((s0 - 1) - x2)), (0, .ref m), (1, .int x1), (3, .int x3)]) (cc3 c164_67) (by decide) rfl ?_
  exact p_lc (ls' := [(0, .ref m), (1, .int x1), (3, .int x3), (4, .int ((s0 - 1) - x2)), (5, .int 0)]) c164_69 rfl rfl h
theorem B164_69 {ev : xV} {Q : Option Value → xM → Prop} {m : Nat} {Φ : (Nat → Nat → Int32) → xM} (hΦ : MLaw m Φ) {μ : Nat → Nat → Int32} {x1 x3 x4 x5 : Int32} (h : vp_in x1 8 ∧ ((x3 = 0) → wpE (xT 164) ev Q (92, [(0, .ref m), (1, .int x1), (3, .int x3), (4, .int x4), (5, .int x5)], [.int 0, .int (μ 25 x1.toNatClampNeg), .int x4], Φ μ)) ∧ (¬ (x3 = 0) → (∃ r μ', ev 162 [.ref m, .int x1, .int x5] (Φ μ) (some (.int r)) (Φ μ') ∧ wpE (xT 164) ev Q (88, [(0, .ref m), (1, .int x1), (3, .int x3), (4, .int x4), (5, .int x5)], [.int r, .int (μ 25 x1.toNatClampNeg), .int x4], Φ μ')))) : wpE (xT 164) ev Q (69, [(0, .ref m), (1, .int x1), (3, .int x3), (4, .int x4), (5, .int x5)], [], Φ μ) := by
  refine p_ild (cct c164_69 rfl) rfl ?_
  refine p_ald (cc3 c164_71) rfl ?_
  refine pm_getp hΦ (cc3 c164_72) (c := 25) rfl (by decide) ?_
  refine p_ild (cc3 c164_75) rfl ?_
  obtain ⟨g, h⟩ := h
  refine pm_aldi hΦ (c := 25) (n := 8) (cc3 c164_76) (by decide) rfl rfl rfl g rfl ?_
  refine p_ild (cc3 c164_77) rfl ?_
  refine p_if (cc3 c164_78) (fun c => ?_) (fun c => ?_)
  · have h := h.1 c
    refine p_push (cc3 c164_91) ?_
    exact h
  · have h := h.2 c
    refine p_ald (cc3 c164_81) rfl ?_
    refine p_ild (cc3 c164_82) rfl ?_
    refine p_ild (cc3 c164_83) rfl ?_
    obtain ⟨r, μ', he, h⟩ := h
    exact p_callV (cc3 c164_85) (Nat.le_of_ble_eq_true rfl) rfl rfl (Nat.le_of_ble_eq_true rfl) (ml_kd hΦ) he h
theorem B164_88 {ev : xV} {Q : Option Value → xM → Prop} {m : Nat} {Φ : (Nat → Nat → Int32) → xM} (hΦ : MLaw m Φ) {μ : Nat → Nat → Int32} {x1 x3 x4 x5 s0 s1 s2 : Int32} (h : wpE (xT 164) ev Q (92, [(0, .ref m), (1, .int x1), (3, .int x3), (4, .int x4), (5, .int x5)], [.int s0, .int s1, .int s2], Φ μ)) : wpE (xT 164) ev Q (88, [(0, .ref m), (1, .int x1), (3, .int x3), (4, .int x4), (5, .int x5)], [.int s0, .int s1, .int s2], Φ μ) := by
  refine p_goto (cc3 c164_88) ?_
  exact h
theorem B164_92 {ev : xV} {Q : Option Value → xM → Prop} {m : Nat} {Φ : (Nat → Nat → Int32) → xM} (hΦ : MLaw m Φ) {μ : Nat → Nat → Int32} {x1 x3 x4 x5 s0 s1 s2 : Int32} (h : ((s2 < (s1 - s0)) → vp_in x1 8 ∧ vp_in (μ 20 x1.toNatClampNeg) 5 ∧ vp_in ((24 * x1) + x5) 192 ∧ ((x3 = 0) → (∃ r μ', ev 139 [.ref m, .int (μ 7 (μ 20 x1.toNatClampNeg).toNatClampNeg), .int (((μ 26 ((24 * x1) + x5).toNatClampNeg) + x4) + 0)] (Φ μ) (some (.int r)) (Φ μ') ∧ wpE (xT 164) ev Q (177, [], [.int r], Φ μ'))) ∧ (¬ (x3 = 0) → (∃ r μ', ev 162 [.ref m, .int x1, .int x5] (Φ μ) (some (.int r)) (Φ μ') ∧ wpE (xT 164) ev Q (167, [(0, .ref m), (1, .int x1), (3, .int x3), (4, .int x4), (5, .int x5)], [.int r, .int ((μ 26 ((24 * x1) + x5).toNatClampNeg) + x4), .int (μ 7 (μ 20 x1.toNatClampNeg).toNatClampNeg), .ref m], Φ μ')))) ∧ (¬ (s2 < (s1 - s0)) → vp_in x1 8 ∧ ((x3 = 0) → wpE (xT 164) ev Q (69, [(0, .ref m), (1, .int x1), (3, .int x3), (4, .int (x4 - ((μ 25 x1.toNatClampNeg) - 0))), (5, .int (x5 + 1))], [], Φ μ)) ∧ (¬ (x3 = 0) → (∃ r μ', ev 162 [.ref m, .int x1, .int x5] (Φ μ) (some (.int r)) (Φ μ') ∧ wpE (xT 164) ev Q (115, [(0, .ref m), (1, .int x1), (3, .int x3), (4, .int x4), (5, .int x5)], [.int r, .int (μ 25 x1.toNatClampNeg), .int x4], Φ μ'))))) : wpE (xT 164) ev Q (92, [(0, .ref m), (1, .int x1), (3, .int x3), (4, .int x4), (5, .int x5)], [.int s0, .int s1, .int s2], Φ μ) := by
  refine p_bin (cct c164_92 rfl) ?_
  refine p_icmp (cc3 c164_93) (fun c => ?_) (fun c => ?_)
  · have h := h.1 c
    refine p_ald (cc3 c164_129) rfl ?_
    refine p_ald (cc3 c164_130) rfl ?_
    refine pm_getp hΦ (cc3 c164_131) (c := 7) rfl (by decide) ?_
    refine p_ald (cc3 c164_134) rfl ?_
    refine pm_getp hΦ (cc3 c164_135) (c := 20) rfl (by decide) ?_
    refine p_ild (cc3 c164_138) rfl ?_
    obtain ⟨g, h⟩ := h
    refine pm_aldi hΦ (c := 20) (n := 8) (cc3 c164_139) (by decide) rfl rfl rfl g rfl ?_
    obtain ⟨g, h⟩ := h
    refine pm_aldi hΦ (c := 7) (n := 5) (cc3 c164_140) (by decide) rfl rfl rfl g rfl ?_
    refine p_ald (cc3 c164_141) rfl ?_
    refine pm_getp hΦ (cc3 c164_142) (c := 26) rfl (by decide) ?_
    refine p_push (cc3 c164_145) ?_
    refine p_ild (cc3 c164_147) rfl ?_
    refine p_bin (cc3 c164_148) ?_
    refine p_ild (cc3 c164_149) rfl ?_
    refine p_bin (cc3 c164_151) ?_
    obtain ⟨g, h⟩ := h
    refine pm_aldi hΦ (c := 26) (n := 192) (cc3 c164_152) (by decide) rfl rfl rfl g rfl ?_
    refine p_ild (cc3 c164_153) rfl ?_
    refine p_bin (cc3 c164_155) ?_
    refine p_ild (cc3 c164_156) rfl ?_
    refine p_if (cc3 c164_157) (fun c => ?_) (fun c => ?_)
    · have h := h.1 c
      refine p_push (cc3 c164_172) ?_
      refine p_lc (ls' := []) c164_173 rfl rfl ?_
      refine p_bin (cct c164_173 rfl) ?_
      obtain ⟨r, μ', he, h⟩ := h
      exact p_callV (cc3 c164_174) (Nat.le_of_ble_eq_true rfl) rfl rfl (Nat.le_of_ble_eq_true rfl) (ml_kd hΦ) he h
    · have h := h.2 c
      refine p_ald (cc3 c164_160) rfl ?_
      refine p_ild (cc3 c164_161) rfl ?_
      refine p_ild (cc3 c164_162) rfl ?_
      obtain ⟨r, μ', he, h⟩ := h
      exact p_callV (cc3 c164_164) (Nat.le_of_ble_eq_true rfl) rfl rfl (Nat.le_of_ble_eq_true rfl) (ml_kd hΦ) he h
  · have h := h.2 c
    refine p_ild (cc3 c164_96) rfl ?_
    refine p_ald (cc3 c164_98) rfl ?_
    refine pm_getp hΦ (cc3 c164_99) (c := 25) rfl (by decide) ?_
    refine p_ild (cc3 c164_102) rfl ?_
    obtain ⟨g, h⟩ := h
    refine pm_aldi hΦ (c := 25) (n := 8) (cc3 c164_103) (by decide) rfl rfl rfl g rfl ?_
    refine p_ild (cc3 c164_104) rfl ?_
    refine p_if (cc3 c164_105) (fun c => ?_) (fun c => ?_)
    · have h := h.1 c
      refine p_push (cc3 c164_118) ?_
      refine p_lc (ls' := [(0, .ref m), (1, .int x1), (3, .int x3), (5, .int x5)]) c164_119 rfl rfl ?_
      refine p_bin (cct c164_119 rfl) ?_
      refine p_bin (cc3 c164_120) ?_
      refine p_ist (ls' := [(4, .int (x4 - ((μ 25 x1.toNatClampNeg) - 0))), (0, .ref m), (1, .int x1), (3, .int x3), (5, .int x5)]) (cc3 c164_121) (by decide) rfl ?_
      refine p_iinc (y := x5 + 1) (ls' := [(5, .int (x5 + 1)), (4, .int (x4 - ((μ 25 x1.toNatClampNeg) - 0))), (0, .ref m), (1, .int x1), (3, .int x3)]) (cc3 c164_123) (by decide) rfl rfl rfl ?_
      refine p_goto (cc3 c164_126) ?_
      exact p_lc (ls' := [(0, .ref m), (1, .int x1), (3, .int x3), (4, .int (x4 - ((μ 25 x1.toNatClampNeg) - 0))), (5, .int (x5 + 1))]) c164_69 rfl rfl h
    · have h := h.2 c
      refine p_ald (cc3 c164_108) rfl ?_
      refine p_ild (cc3 c164_109) rfl ?_
      refine p_ild (cc3 c164_110) rfl ?_
      obtain ⟨r, μ', he, h⟩ := h
      exact p_callV (cc3 c164_112) (Nat.le_of_ble_eq_true rfl) rfl rfl (Nat.le_of_ble_eq_true rfl) (ml_kd hΦ) he h
theorem B164_115 {ev : xV} {Q : Option Value → xM → Prop} {m : Nat} {Φ : (Nat → Nat → Int32) → xM} (hΦ : MLaw m Φ) {μ : Nat → Nat → Int32} {x1 x3 x4 x5 s0 s1 s2 : Int32} (h : wpE (xT 164) ev Q (69, [(0, .ref m), (1, .int x1), (3, .int x3), (4, .int (s2 - (s1 - s0))), (5, .int (x5 + 1))], [], Φ μ)) : wpE (xT 164) ev Q (115, [(0, .ref m), (1, .int x1), (3, .int x3), (4, .int x4), (5, .int x5)], [.int s0, .int s1, .int s2], Φ μ) := by
  refine p_goto (cc3 c164_115) ?_
  refine p_lc (ls' := [(0, .ref m), (1, .int x1), (3, .int x3), (5, .int x5)]) c164_119 rfl rfl ?_
  refine p_bin (cct c164_119 rfl) ?_
  refine p_bin (cc3 c164_120) ?_
  refine p_ist (ls' := [(4, .int (s2 - (s1 - s0))), (0, .ref m), (1, .int x1), (3, .int x3), (5, .int x5)]) (cc3 c164_121) (by decide) rfl ?_
  refine p_iinc (y := x5 + 1) (ls' := [(5, .int (x5 + 1)), (4, .int (s2 - (s1 - s0))), (0, .ref m), (1, .int x1), (3, .int x3)]) (cc3 c164_123) (by decide) rfl rfl rfl ?_
  refine p_goto (cc3 c164_126) ?_
  exact p_lc (ls' := [(0, .ref m), (1, .int x1), (3, .int x3), (4, .int (s2 - (s1 - s0))), (5, .int (x5 + 1))]) c164_69 rfl rfl h
theorem B164_167 {ev : xV} {Q : Option Value → xM → Prop} {m : Nat} {Φ : (Nat → Nat → Int32) → xM} (hΦ : MLaw m Φ) {μ : Nat → Nat → Int32} {x1 x3 x4 x5 s0 s1 s2 : Int32} (h : (∃ r μ', ev 139 [.ref m, .int s2, .int (s1 + (s0 / 2))] (Φ μ) (some (.int r)) (Φ μ') ∧ wpE (xT 164) ev Q (177, [], [.int r], Φ μ'))) : wpE (xT 164) ev Q (167, [(0, .ref m), (1, .int x1), (3, .int x3), (4, .int x4), (5, .int x5)], [.int s0, .int s1, .int s2, .ref m], Φ μ) := by
  refine p_push (cc3 c164_167) ?_
  refine p_div (cc3 c164_168) (by decide) ?_
  refine p_goto (cc3 c164_169) ?_
  refine p_lc (ls' := []) c164_173 rfl rfl ?_
  refine p_bin (cct c164_173 rfl) ?_
  obtain ⟨r, μ', he, h⟩ := h
  exact p_callV (cc3 c164_174) (Nat.le_of_ble_eq_true rfl) rfl rfl (Nat.le_of_ble_eq_true rfl) (ml_kd hΦ) he h
theorem B164_177 {ev : xV} {Q : Option Value → xM → Prop} {m : Nat} {Φ : (Nat → Nat → Int32) → xM} (hΦ : MLaw m Φ) {μ : Nat → Nat → Int32} {s0 : Int32} (h : Q (some (.int s0)) (Φ μ)) : wpE (xT 164) ev Q (177, [], [.int s0], Φ μ) := by
  exact p_ri (cc3 c164_177) trivial h
theorem B165_0 {ev : xV} {Q : Option Value → xM → Prop} {m : Nat} {Φ : (Nat → Nat → Int32) → xM} (hΦ : MLaw m Φ) {μ : Nat → Nat → Int32} {x1 x2 : Int32} (h : vp_in x1 8 ∧ vp_in x1 8 ∧ ((x2 = 0) → Q (some (.int (((μ 15 x1.toNatClampNeg) * (μ 25 x1.toNatClampNeg)) - 0))) (Φ μ)) ∧ (¬ (x2 = 0) → vp_in x1 8 ∧ Q (some (.int (((μ 15 x1.toNatClampNeg) * (μ 25 x1.toNatClampNeg)) - (μ 19 x1.toNatClampNeg)))) (Φ μ))) : wpE (xT 165) ev Q (0, [(0, .ref m), (1, .int x1), (2, .int x2)], [], Φ μ) := by
  refine p_ald (cc3 c165_0) rfl ?_
  refine pm_getp hΦ (cc3 c165_1) (c := 15) rfl (by decide) ?_
  refine p_ild (cc3 c165_4) rfl ?_
  obtain ⟨g, h⟩ := h
  refine pm_aldi hΦ (c := 15) (n := 8) (cc3 c165_5) (by decide) rfl rfl rfl g rfl ?_
  refine p_ald (cc3 c165_6) rfl ?_
  refine pm_getp hΦ (cc3 c165_7) (c := 25) rfl (by decide) ?_
  refine p_ild (cc3 c165_10) rfl ?_
  obtain ⟨g, h⟩ := h
  refine pm_aldi hΦ (c := 25) (n := 8) (cc3 c165_11) (by decide) rfl rfl rfl g rfl ?_
  refine p_bin (cc3 c165_12) ?_
  refine p_ild (cc3 c165_13) rfl ?_
  refine p_if (cc3 c165_14) (fun c => ?_) (fun c => ?_)
  · have h := h.1 c
    refine p_push (cc3 c165_26) ?_
    refine p_lc (ls' := []) c165_27 rfl rfl ?_
    refine p_bin (cct c165_27 rfl) ?_
    exact p_ri (cc3 c165_28) trivial h
  · have h := h.2 c
    refine p_ald (cc3 c165_17) rfl ?_
    refine pm_getp hΦ (cc3 c165_18) (c := 19) rfl (by decide) ?_
    refine p_ild (cc3 c165_21) rfl ?_
    obtain ⟨g, h⟩ := h
    refine pm_aldi hΦ (c := 19) (n := 8) (cc3 c165_22) (by decide) rfl rfl rfl g rfl ?_
    refine p_goto (cc3 c165_23) ?_
    refine p_lc (ls' := []) c165_27 rfl rfl ?_
    refine p_bin (cct c165_27 rfl) ?_
    exact p_ri (cc3 c165_28) trivial h
theorem B166_0 {ev : xV} {Q : Option Value → xM → Prop} {m : Nat} {Φ : (Nat → Nat → Int32) → xM} (hΦ : MLaw m Φ) {μ : Nat → Nat → Int32} {x1 x2 : Int32} (h : (∃ r μ', ev 147 [.ref m, .int x1] (Φ μ) (some (.int r)) (Φ μ') ∧ wpE (xT 166) ev Q (5, [(0, .ref m), (1, .int x1), (2, .int x2)], [.int r], Φ μ'))) : wpE (xT 166) ev Q (0, [(0, .ref m), (1, .int x1), (2, .int x2)], [], Φ μ) := by
  refine p_ald (cc3 c166_0) rfl ?_
  refine p_ild (cc3 c166_1) rfl ?_
  obtain ⟨r, μ', he, h⟩ := h
  exact p_callV (cc3 c166_2) (Nat.le_of_ble_eq_true rfl) rfl rfl (Nat.le_of_ble_eq_true rfl) (ml_kd hΦ) he h
theorem B166_5 {ev : xV} {Q : Option Value → xM → Prop} {m : Nat} {Φ : (Nat → Nat → Int32) → xM} (hΦ : MLaw m Φ) {μ : Nat → Nat → Int32} {x1 x2 s0 : Int32} (h : ((s0 = 0) → Q (some (.int ((-2)))) (Φ μ)) ∧ (¬ (s0 = 0) → (∃ r μ', ev 160 [.ref m, .int x1] (Φ μ) (some (.int r)) (Φ μ') ∧ wpE (xT 166) ev Q (16, [(0, .ref m), (1, .int x1), (2, .int x2)], [.int r], Φ μ')))) : wpE (xT 166) ev Q (5, [(0, .ref m), (1, .int x1), (2, .int x2)], [.int s0], Φ μ) := by
  refine p_if (cc3 c166_5) (fun c => ?_) (fun c => ?_)
  · have h := h.1 c
    refine p_push (cc3 c166_8) ?_
    exact p_ri (cc3 c166_10) trivial h
  · have h := h.2 c
    refine p_ald (cc3 c166_11) rfl ?_
    refine p_ild (cc3 c166_12) rfl ?_
    obtain ⟨r, μ', he, h⟩ := h
    exact p_callV (cc3 c166_13) (Nat.le_of_ble_eq_true rfl) rfl rfl (Nat.le_of_ble_eq_true rfl) (ml_kd hΦ) he h
theorem B166_16 {ev : xV} {Q : Option Value → xM → Prop} {m : Nat} {Φ : (Nat → Nat → Int32) → xM} (hΦ : MLaw m Φ) {μ : Nat → Nat → Int32} {x1 x2 s0 : Int32} (h : ((s0 = 0) → Q (some (.int ((-3)))) (Φ μ)) ∧ (¬ (s0 = 0) → (∃ r μ', ev 165 [.ref m, .int x1, .int x2] (Φ μ) (some (.int r)) (Φ μ') ∧ wpE (xT 166) ev Q (25, [(0, .ref m), (1, .int x1), (2, .int x2)], [.int r], Φ μ')))) : wpE (xT 166) ev Q (16, [(0, .ref m), (1, .int x1), (2, .int x2)], [.int s0], Φ μ) := by
  refine p_if (cc3 c166_16) (fun c => ?_) (fun c => ?_)
  · have h := h.1 c
    refine p_push (cc3 c166_28) ?_
    refine p_lc (ls' := []) c166_30 rfl rfl ?_
    exact p_ri (cct c166_30 rfl) trivial h
  · have h := h.2 c
    refine p_ald (cc3 c166_19) rfl ?_
    refine p_ild (cc3 c166_20) rfl ?_
    refine p_ild (cc3 c166_21) rfl ?_
    obtain ⟨r, μ', he, h⟩ := h
    exact p_callV (cc3 c166_22) (Nat.le_of_ble_eq_true rfl) rfl rfl (Nat.le_of_ble_eq_true rfl) (ml_kd hΦ) he h
theorem B166_25 {ev : xV} {Q : Option Value → xM → Prop} {m : Nat} {Φ : (Nat → Nat → Int32) → xM} (hΦ : MLaw m Φ) {μ : Nat → Nat → Int32} {x1 x2 s0 : Int32} (h : Q (some (.int s0)) (Φ μ)) : wpE (xT 166) ev Q (25, [(0, .ref m), (1, .int x1), (2, .int x2)], [.int s0], Φ μ) := by
  refine p_goto (cc3 c166_25) ?_
  refine p_lc (ls' := []) c166_30 rfl rfl ?_
  exact p_ri (cct c166_30 rfl) trivial h
theorem B167_0 {ev : xV} {Q : Option Value → xM → Prop} {m : Nat} {Φ : (Nat → Nat → Int32) → xM} (hΦ : MLaw m Φ) {μ : Nat → Nat → Int32} {x1 x2 : Int32} (h : (∃ r μ', ev 147 [.ref m, .int x1] (Φ μ) (some (.int r)) (Φ μ') ∧ wpE (xT 167) ev Q (5, [(0, .ref m), (1, .int x1), (2, .int x2)], [.int r], Φ μ'))) : wpE (xT 167) ev Q (0, [(0, .ref m), (1, .int x1), (2, .int x2)], [], Φ μ) := by
  refine p_ald (cc3 c167_0) rfl ?_
  refine p_ild (cc3 c167_1) rfl ?_
  obtain ⟨r, μ', he, h⟩ := h
  exact p_callV (cc3 c167_2) (Nat.le_of_ble_eq_true rfl) rfl rfl (Nat.le_of_ble_eq_true rfl) (ml_kd hΦ) he h
theorem B167_5 {ev : xV} {Q : Option Value → xM → Prop} {m : Nat} {Φ : (Nat → Nat → Int32) → xM} (hΦ : MLaw m Φ) {μ : Nat → Nat → Int32} {x1 x2 s0 : Int32} (h : ((s0 = 0) → Q (some (.int ((-2)))) (Φ μ)) ∧ (¬ (s0 = 0) → (∃ r μ', ev 129 [.ref m, .int x2, .int ((-20)), .int 20] (Φ μ) (some (.int r)) (Φ μ') ∧ wpE (xT 167) ev Q (17, [(0, .ref m), (1, .int x1), (2, .int x2)], [.int r], Φ μ')))) : wpE (xT 167) ev Q (5, [(0, .ref m), (1, .int x1), (2, .int x2)], [.int s0], Φ μ) := by
  refine p_if (cc3 c167_5) (fun c => ?_) (fun c => ?_)
  · have h := h.1 c
    refine p_lc (ls' := []) c167_20 rfl rfl ?_
    refine p_push (cct c167_20 rfl) ?_
    exact p_ri (cc3 c167_22) trivial h
  · have h := h.2 c
    refine p_ald (cc3 c167_8) rfl ?_
    refine p_ild (cc3 c167_9) rfl ?_
    refine p_push (cc3 c167_10) ?_
    refine p_push (cc3 c167_12) ?_
    obtain ⟨r, μ', he, h⟩ := h
    exact p_callV (cc3 c167_14) (Nat.le_of_ble_eq_true rfl) rfl rfl (Nat.le_of_ble_eq_true rfl) (ml_kd hΦ) he h
theorem B167_17 {ev : xV} {Q : Option Value → xM → Prop} {m : Nat} {Φ : (Nat → Nat → Int32) → xM} (hΦ : MLaw m Φ) {μ : Nat → Nat → Int32} {x1 x2 s0 : Int32} (h : ((s0 = 0) → Q (some (.int ((-2)))) (Φ μ)) ∧ (¬ (s0 = 0) → (∃ r μ', ev 160 [.ref m, .int x1] (Φ μ) (some (.int r)) (Φ μ') ∧ wpE (xT 167) ev Q (28, [(0, .ref m), (1, .int x1), (2, .int x2)], [.int r], Φ μ')))) : wpE (xT 167) ev Q (17, [(0, .ref m), (1, .int x1), (2, .int x2)], [.int s0], Φ μ) := by
  refine p_if (cc3 c167_17) (fun c => ?_) (fun c => ?_)
  · have h := h.1 c
    refine p_lc (ls' := []) c167_20 rfl rfl ?_
    refine p_push (cct c167_20 rfl) ?_
    exact p_ri (cc3 c167_22) trivial h
  · have h := h.2 c
    refine p_ald (cc3 c167_23) rfl ?_
    refine p_ild (cc3 c167_24) rfl ?_
    obtain ⟨r, μ', he, h⟩ := h
    exact p_callV (cc3 c167_25) (Nat.le_of_ble_eq_true rfl) rfl rfl (Nat.le_of_ble_eq_true rfl) (ml_kd hΦ) he h
theorem B167_28 {ev : xV} {Q : Option Value → xM → Prop} {m : Nat} {Φ : (Nat → Nat → Int32) → xM} (hΦ : MLaw m Φ) {μ : Nat → Nat → Int32} {x1 x2 s0 : Int32} (h : ((s0 = 0) → Q (some (.int ((-3)))) (Φ μ)) ∧ (¬ (s0 = 0) → vp_in x1 8 ∧ (∃ r μ', ev 168 [.ref m, .int x1, .int ((μ 25 x1.toNatClampNeg) + x2)] (Φ μ) (some (.int r)) (Φ μ') ∧ wpE (xT 167) ev Q (44, [(0, .ref m), (1, .int x1), (2, .int x2)], [.int r], Φ μ')))) : wpE (xT 167) ev Q (28, [(0, .ref m), (1, .int x1), (2, .int x2)], [.int s0], Φ μ) := by
  refine p_if (cc3 c167_28) (fun c => ?_) (fun c => ?_)
  · have h := h.1 c
    refine p_lc (ls' := []) c167_47 rfl rfl ?_
    refine p_push (cct c167_47 rfl) ?_
    exact p_ri (cc3 c167_49) trivial h
  · have h := h.2 c
    refine p_ald (cc3 c167_31) rfl ?_
    refine p_ild (cc3 c167_32) rfl ?_
    refine p_ald (cc3 c167_33) rfl ?_
    refine pm_getp hΦ (cc3 c167_34) (c := 25) rfl (by decide) ?_
    refine p_ild (cc3 c167_37) rfl ?_
    obtain ⟨g, h⟩ := h
    refine pm_aldi hΦ (c := 25) (n := 8) (cc3 c167_38) (by decide) rfl rfl rfl g rfl ?_
    refine p_ild (cc3 c167_39) rfl ?_
    refine p_bin (cc3 c167_40) ?_
    obtain ⟨r, μ', he, h⟩ := h
    exact p_callV (cc3 c167_41) (Nat.le_of_ble_eq_true rfl) rfl rfl (Nat.le_of_ble_eq_true rfl) (ml_kd hΦ) he h
theorem B167_44 {ev : xV} {Q : Option Value → xM → Prop} {m : Nat} {Φ : (Nat → Nat → Int32) → xM} (hΦ : MLaw m Φ) {μ : Nat → Nat → Int32} {x1 x2 s0 : Int32} (h : ((s0 = 0) → Q (some (.int ((-3)))) (Φ μ)) ∧ (¬ (s0 = 0) → vp_in x1 8 ∧ vp_in x1 8 ∧ vp_in x1 8 ∧ Q (some (.int ((U μ 25 x1.toNatClampNeg ((μ 25 x1.toNatClampNeg) + x2)) 25 x1.toNatClampNeg))) (Φ (U μ 25 x1.toNatClampNeg ((μ 25 x1.toNatClampNeg) + x2))))) : wpE (xT 167) ev Q (44, [(0, .ref m), (1, .int x1), (2, .int x2)], [.int s0], Φ μ) := by
  refine p_if (cc3 c167_44) (fun c => ?_) (fun c => ?_)
  · have h := h.1 c
    refine p_lc (ls' := []) c167_47 rfl rfl ?_
    refine p_push (cct c167_47 rfl) ?_
    exact p_ri (cc3 c167_49) trivial h
  · have h := h.2 c
    refine p_ald (cc3 c167_50) rfl ?_
    refine pm_getp hΦ (cc3 c167_51) (c := 25) rfl (by decide) ?_
    refine p_ild (cc3 c167_54) rfl ?_
    refine p_dup2 (cc3 c167_55) rfl rfl ?_
    obtain ⟨g, h⟩ := h
    refine pm_aldi hΦ (c := 25) (n := 8) (cc3 c167_56) (by decide) rfl rfl rfl g rfl ?_
    refine p_ild (cc3 c167_57) rfl ?_
    refine p_bin (cc3 c167_58) ?_
    obtain ⟨g, h⟩ := h
    refine pm_asti hΦ (c := 25) (n := 8) (cc3 c167_59) (by decide) rfl rfl rfl g ?_
    refine p_ald (cc3 c167_60) rfl ?_
    refine pm_getp hΦ (cc3 c167_61) (c := 25) rfl (by decide) ?_
    refine p_ild (cc3 c167_64) rfl ?_
    obtain ⟨g, h⟩ := h
    refine pm_aldi hΦ (c := 25) (n := 8) (cc3 c167_65) (by decide) rfl rfl rfl g rfl ?_
    exact p_ri (cc3 c167_66) trivial h
theorem B168_0 {ev : xV} {Q : Option Value → xM → Prop} {m : Nat} {Φ : (Nat → Nat → Int32) → xM} (hΦ : MLaw m Φ) {μ : Nat → Nat → Int32} {x1 x2 : Int32} (h : (∃ r μ', ev 129 [.ref m, .int x2, .int 1, .int 999] (Φ μ) (some (.int r)) (Φ μ') ∧ wpE (xT 168) ev Q (9, [(0, .ref m), (1, .int x1), (2, .int x2)], [.int r], Φ μ'))) : wpE (xT 168) ev Q (0, [(0, .ref m), (1, .int x1), (2, .int x2)], [], Φ μ) := by
  refine p_ald (cc3 c168_0) rfl ?_
  refine p_ild (cc3 c168_1) rfl ?_
  refine p_push (cc3 c168_2) ?_
  refine p_push (cc3 c168_3) ?_
  obtain ⟨r, μ', he, h⟩ := h
  exact p_callV (cc3 c168_6) (Nat.le_of_ble_eq_true rfl) rfl rfl (Nat.le_of_ble_eq_true rfl) (ml_kd hΦ) he h
theorem B168_9 {ev : xV} {Q : Option Value → xM → Prop} {m : Nat} {Φ : (Nat → Nat → Int32) → xM} (hΦ : MLaw m Φ) {μ : Nat → Nat → Int32} {x1 x2 s0 : Int32} (h : ((s0 = 0) → Q (some (.int 0)) (Φ μ)) ∧ (¬ (s0 = 0) → wpE (xT 168) ev Q (16, [(0, .ref m), (1, .int x1), (2, .int x2), (3, .int 0)], [], Φ μ))) : wpE (xT 168) ev Q (9, [(0, .ref m), (1, .int x1), (2, .int x2)], [.int s0], Φ μ) := by
  refine p_if (cc3 c168_9) (fun c => ?_) (fun c => ?_)
  · have h := h.1 c
    refine p_push (cc3 c168_12) ?_
    exact p_ri (cc3 c168_13) (by decide) h
  · have h := h.2 c
    refine p_push (cc3 c168_14) ?_
    refine p_ist (ls' := [(3, .int 0), (0, .ref m), (1, .int x1), (2, .int x2)]) (cc3 c168_15) (by decide) rfl ?_
    exact p_lc (ls' := [(0, .ref m), (1, .int x1), (2, .int x2), (3, .int 0)]) c168_16 rfl rfl h
theorem B168_16 {ev : xV} {Q : Option Value → xM → Prop} {m : Nat} {Φ : (Nat → Nat → Int32) → xM} (hΦ : MLaw m Φ) {μ : Nat → Nat → Int32} {x1 x2 x3 : Int32} (h : vp_in x1 8 ∧ (((μ 15 x1.toNatClampNeg) ≤ x3) → Q (some (.int 1)) (Φ μ)) ∧ (¬ ((μ 15 x1.toNatClampNeg) ≤ x3) → (∃ r μ', ev 162 [.ref m, .int x1, .int x3] (Φ μ) (some (.int r)) (Φ μ') ∧ wpE (xT 168) ev Q (33, [(0, .ref m), (1, .int x1), (2, .int x2), (3, .int x3)], [.int r, .int x2], Φ μ')))) : wpE (xT 168) ev Q (16, [(0, .ref m), (1, .int x1), (2, .int x2), (3, .int x3)], [], Φ μ) := by
  refine p_ild (cct c168_16 rfl) rfl ?_
  refine p_ald (cc3 c168_17) rfl ?_
  refine pm_getp hΦ (cc3 c168_18) (c := 15) rfl (by decide) ?_
  refine p_ild (cc3 c168_21) rfl ?_
  obtain ⟨g, h⟩ := h
  refine pm_aldi hΦ (c := 15) (n := 8) (cc3 c168_22) (by decide) rfl rfl rfl g rfl ?_
  refine p_icmp (cc3 c168_23) (fun c => ?_) (fun c => ?_)
  · have h := h.1 c
    refine p_push (cc3 c168_91) ?_
    exact p_ri (cc3 c168_92) (by decide) h
  · have h := h.2 c
    refine p_ild (cc3 c168_26) rfl ?_
    refine p_ald (cc3 c168_27) rfl ?_
    refine p_ild (cc3 c168_28) rfl ?_
    refine p_ild (cc3 c168_29) rfl ?_
    obtain ⟨r, μ', he, h⟩ := h
    exact p_callV (cc3 c168_30) (Nat.le_of_ble_eq_true rfl) rfl rfl (Nat.le_of_ble_eq_true rfl) (ml_kd hΦ) he h
theorem B168_33 {ev : xV} {Q : Option Value → xM → Prop} {m : Nat} {Φ : (Nat → Nat → Int32) → xM} (hΦ : MLaw m Φ) {μ : Nat → Nat → Int32} {x1 x2 x3 s0 s1 : Int32} (h : ((s1 ≤ s0) → Q (some (.int 0)) (Φ μ)) ∧ (¬ (s1 ≤ s0) → vp_in ((24 * x1) + x3) 192 ∧ (∃ r μ', ev 163 [.ref m, .int x1, .int x3] (Φ μ) (some (.int r)) (Φ μ') ∧ wpE (xT 168) ev Q (55, [(0, .ref m), (1, .int x1), (2, .int x2), (3, .int x3)], [.int r, .int ((μ 26 ((24 * x1) + x3).toNatClampNeg) + x2)], Φ μ')))) : wpE (xT 168) ev Q (33, [(0, .ref m), (1, .int x1), (2, .int x2), (3, .int x3)], [.int s0, .int s1], Φ μ) := by
  refine p_icmp (cc3 c168_33) (fun c => ?_) (fun c => ?_)
  · have h := h.1 c
    refine p_lc (ls' := []) c168_83 rfl rfl ?_
    refine p_push (cct c168_83 rfl) ?_
    exact p_ri (cc3 c168_84) (by decide) h
  · have h := h.2 c
    refine p_ald (cc3 c168_36) rfl ?_
    refine pm_getp hΦ (cc3 c168_37) (c := 26) rfl (by decide) ?_
    refine p_push (cc3 c168_40) ?_
    refine p_ild (cc3 c168_42) rfl ?_
    refine p_bin (cc3 c168_43) ?_
    refine p_ild (cc3 c168_44) rfl ?_
    refine p_bin (cc3 c168_45) ?_
    obtain ⟨g, h⟩ := h
    refine pm_aldi hΦ (c := 26) (n := 192) (cc3 c168_46) (by decide) rfl rfl rfl g rfl ?_
    refine p_ild (cc3 c168_47) rfl ?_
    refine p_bin (cc3 c168_48) ?_
    refine p_ald (cc3 c168_49) rfl ?_
    refine p_ild (cc3 c168_50) rfl ?_
    refine p_ild (cc3 c168_51) rfl ?_
    obtain ⟨r, μ', he, h⟩ := h
    exact p_callV (cc3 c168_52) (Nat.le_of_ble_eq_true rfl) rfl rfl (Nat.le_of_ble_eq_true rfl) (ml_kd hΦ) he h
theorem B168_55 {ev : xV} {Q : Option Value → xM → Prop} {m : Nat} {Φ : (Nat → Nat → Int32) → xM} (hΦ : MLaw m Φ) {μ : Nat → Nat → Int32} {x1 x2 x3 s0 s1 : Int32} (h : ((s0 < s1) → Q (some (.int 0)) (Φ μ)) ∧ (¬ (s0 < s1) → vp_in x1 8 ∧ vp_in ((24 * x1) + x3) 192 ∧ (∃ r μ', ev 144 [.ref m, .int (μ 20 x1.toNatClampNeg), .int (μ 26 ((24 * x1) + x3).toNatClampNeg), .int x2] (Φ μ) (some (.int r)) (Φ μ') ∧ wpE (xT 168) ev Q (80, [(0, .ref m), (1, .int x1), (2, .int x2), (3, .int x3)], [.int r], Φ μ')))) : wpE (xT 168) ev Q (55, [(0, .ref m), (1, .int x1), (2, .int x2), (3, .int x3)], [.int s0, .int s1], Φ μ) := by
  refine p_icmp (cc3 c168_55) (fun c => ?_) (fun c => ?_)
  · have h := h.1 c
    refine p_lc (ls' := []) c168_83 rfl rfl ?_
    refine p_push (cct c168_83 rfl) ?_
    exact p_ri (cc3 c168_84) (by decide) h
  · have h := h.2 c
    refine p_ald (cc3 c168_58) rfl ?_
    refine p_ald (cc3 c168_59) rfl ?_
    refine pm_getp hΦ (cc3 c168_60) (c := 20) rfl (by decide) ?_
    refine p_ild (cc3 c168_63) rfl ?_
    obtain ⟨g, h⟩ := h
    refine pm_aldi hΦ (c := 20) (n := 8) (cc3 c168_64) (by decide) rfl rfl rfl g rfl ?_
    refine p_ald (cc3 c168_65) rfl ?_
    refine pm_getp hΦ (cc3 c168_66) (c := 26) rfl (by decide) ?_
    refine p_push (cc3 c168_69) ?_
    refine p_ild (cc3 c168_71) rfl ?_
    refine p_bin (cc3 c168_72) ?_
    refine p_ild (cc3 c168_73) rfl ?_
    refine p_bin (cc3 c168_74) ?_
    obtain ⟨g, h⟩ := h
    refine pm_aldi hΦ (c := 26) (n := 192) (cc3 c168_75) (by decide) rfl rfl rfl g rfl ?_
    refine p_ild (cc3 c168_76) rfl ?_
    obtain ⟨r, μ', he, h⟩ := h
    exact p_callV (cc3 c168_77) (Nat.le_of_ble_eq_true rfl) rfl rfl (Nat.le_of_ble_eq_true rfl) (ml_kd hΦ) he h
theorem B168_80 {ev : xV} {Q : Option Value → xM → Prop} {m : Nat} {Φ : (Nat → Nat → Int32) → xM} (hΦ : MLaw m Φ) {μ : Nat → Nat → Int32} {x1 x2 x3 s0 : Int32} (h : ((s0 = 0) → wpE (xT 168) ev Q (16, [(0, .ref m), (1, .int x1), (2, .int x2), (3, .int (x3 + 1))], [], Φ μ)) ∧ (¬ (s0 = 0) → Q (some (.int 0)) (Φ μ))) : wpE (xT 168) ev Q (80, [(0, .ref m), (1, .int x1), (2, .int x2), (3, .int x3)], [.int s0], Φ μ) := by
  refine p_if (cc3 c168_80) (fun c => ?_) (fun c => ?_)
  · have h := h.1 c
    refine p_iinc (y := x3 + 1) (ls' := [(3, .int (x3 + 1)), (0, .ref m), (1, .int x1), (2, .int x2)]) (cc3 c168_85) (by decide) rfl rfl rfl ?_
    refine p_goto (cc3 c168_88) ?_
    exact p_lc (ls' := [(0, .ref m), (1, .int x1), (2, .int x2), (3, .int (x3 + 1))]) c168_16 rfl rfl h
  · have h := h.2 c
    refine p_lc (ls' := []) c168_83 rfl rfl ?_
    refine p_push (cct c168_83 rfl) ?_
    exact p_ri (cc3 c168_84) (by decide) h
theorem B169_0 {ev : xV} {Q : Option Value → xM → Prop} {m : Nat} {Φ : (Nat → Nat → Int32) → xM} (hΦ : MLaw m Φ) {μ : Nat → Nat → Int32} {x1 : Int32} (h : (∃ r μ', ev 147 [.ref m, .int x1] (Φ μ) (some (.int r)) (Φ μ') ∧ wpE (xT 169) ev Q (5, [(0, .ref m), (1, .int x1)], [.int r], Φ μ'))) : wpE (xT 169) ev Q (0, [(0, .ref m), (1, .int x1)], [], Φ μ) := by
  refine p_ald (cc3 c169_0) rfl ?_
  refine p_ild (cc3 c169_1) rfl ?_
  obtain ⟨r, μ', he, h⟩ := h
  exact p_callV (cc3 c169_2) (Nat.le_of_ble_eq_true rfl) rfl rfl (Nat.le_of_ble_eq_true rfl) (ml_kd hΦ) he h
theorem B169_5 {ev : xV} {Q : Option Value → xM → Prop} {m : Nat} {Φ : (Nat → Nat → Int32) → xM} (hΦ : MLaw m Φ) {μ : Nat → Nat → Int32} {x1 s0 : Int32} (h : ((s0 = 0) → Q (some (.int ((-2)))) (Φ μ)) ∧ (¬ (s0 = 0) → (∃ r μ', ev 160 [.ref m, .int x1] (Φ μ) (some (.int r)) (Φ μ') ∧ wpE (xT 169) ev Q (16, [(0, .ref m), (1, .int x1)], [.int r], Φ μ')))) : wpE (xT 169) ev Q (5, [(0, .ref m), (1, .int x1)], [.int s0], Φ μ) := by
  refine p_if (cc3 c169_5) (fun c => ?_) (fun c => ?_)
  · have h := h.1 c
    refine p_push (cc3 c169_8) ?_
    exact p_ri (cc3 c169_10) trivial h
  · have h := h.2 c
    refine p_ald (cc3 c169_11) rfl ?_
    refine p_ild (cc3 c169_12) rfl ?_
    obtain ⟨r, μ', he, h⟩ := h
    exact p_callV (cc3 c169_13) (Nat.le_of_ble_eq_true rfl) rfl rfl (Nat.le_of_ble_eq_true rfl) (ml_kd hΦ) he h
theorem B169_16 {ev : xV} {Q : Option Value → xM → Prop} {m : Nat} {Φ : (Nat → Nat → Int32) → xM} (hΦ : MLaw m Φ) {μ : Nat → Nat → Int32} {x1 s0 : Int32} (h : ((s0 = 0) → Q (some (.int ((-3)))) (Φ μ)) ∧ (¬ (s0 = 0) → vp_in x1 8 ∧ (((μ 28 x1.toNatClampNeg) = 0) → wpE (xT 169) ev Q (41, [(0, .ref m), (1, .int x1)], [.int 1, .int x1, .ref (m + 28)], Φ μ)) ∧ (¬ ((μ 28 x1.toNatClampNeg) = 0) → wpE (xT 169) ev Q (41, [(0, .ref m), (1, .int x1)], [.int 0, .int x1, .ref (m + 28)], Φ μ)))) : wpE (xT 169) ev Q (16, [(0, .ref m), (1, .int x1)], [.int s0], Φ μ) := by
  refine p_if (cc3 c169_16) (fun c => ?_) (fun c => ?_)
  · have h := h.1 c
    refine p_push (cc3 c169_19) ?_
    exact p_ri (cc3 c169_21) trivial h
  · have h := h.2 c
    refine p_ald (cc3 c169_22) rfl ?_
    refine pm_getp hΦ (cc3 c169_23) (c := 28) rfl (by decide) ?_
    refine p_ild (cc3 c169_26) rfl ?_
    refine p_ald (cc3 c169_27) rfl ?_
    refine pm_getp hΦ (cc3 c169_28) (c := 28) rfl (by decide) ?_
    refine p_ild (cc3 c169_31) rfl ?_
    obtain ⟨g, h⟩ := h
    refine pm_aldi hΦ (c := 28) (n := 8) (cc3 c169_32) (by decide) rfl rfl rfl g rfl ?_
    refine p_if (cc3 c169_33) (fun c => ?_) (fun c => ?_)
    · have h := h.1 c
      refine p_push (cc3 c169_36) ?_
      refine p_goto (cc3 c169_37) ?_
      exact h
    · have h := h.2 c
      refine p_push (cc3 c169_40) ?_
      exact h
theorem B169_41 {ev : xV} {Q : Option Value → xM → Prop} {m : Nat} {Φ : (Nat → Nat → Int32) → xM} (hΦ : MLaw m Φ) {μ : Nat → Nat → Int32} {x1 s0 s1 : Int32} (h : vp_in s1 8 ∧ vp_in x1 8 ∧ ((((U μ 28 s1.toNatClampNeg (vp_nar .boolean s0)) 28 x1.toNatClampNeg) = 0) → Q (some (.int 0)) (Φ (U μ 28 s1.toNatClampNeg (vp_nar .boolean s0)))) ∧ (¬ (((U μ 28 s1.toNatClampNeg (vp_nar .boolean s0)) 28 x1.toNatClampNeg) = 0) → Q (some (.int 1)) (Φ (U μ 28 s1.toNatClampNeg (vp_nar .boolean s0))))) : wpE (xT 169) ev Q (41, [(0, .ref m), (1, .int x1)], [.int s0, .int s1, .ref (m + 28)], Φ μ) := by
  obtain ⟨g, h⟩ := h
  refine pm_asti hΦ (c := 28) (n := 8) (cct c169_41 rfl) (by decide) rfl rfl rfl g ?_
  refine p_ald (cc3 c169_42) rfl ?_
  refine pm_getp hΦ (cc3 c169_43) (c := 28) rfl (by decide) ?_
  refine p_ild (cc3 c169_46) rfl ?_
  obtain ⟨g, h⟩ := h
  refine pm_aldi hΦ (c := 28) (n := 8) (cc3 c169_47) (by decide) rfl rfl rfl g rfl ?_
  refine p_if (cc3 c169_48) (fun c => ?_) (fun c => ?_)
  · have h := h.1 c
    refine p_push (cc3 c169_55) ?_
    refine p_lc (ls' := []) c169_56 rfl rfl ?_
    exact p_ri (cct c169_56 rfl) trivial h
  · have h := h.2 c
    refine p_push (cc3 c169_51) ?_
    refine p_goto (cc3 c169_52) ?_
    refine p_lc (ls' := []) c169_56 rfl rfl ?_
    exact p_ri (cct c169_56 rfl) trivial h
theorem B170_0 {ev : xV} {Q : Option Value → xM → Prop} {m : Nat} {Φ : (Nat → Nat → Int32) → xM} (hΦ : MLaw m Φ) {μ : Nat → Nat → Int32} (h : (((μ 0 42) = 6) → Q (some (.int ((-4)))) (Φ μ)) ∧ (¬ ((μ 0 42) = 6) → (∃ r μ', ev 171 [.ref m] (Φ μ) (some (.int r)) (Φ μ') ∧ wpE (xT 170) ev Q (16, [(0, .ref m)], [.int r], Φ μ')))) : wpE (xT 170) ev Q (0, [(0, .ref m)], [], Φ μ) := by
  refine p_ald (cc3 c170_0) rfl ?_
  refine pm_geti hΦ (v := μ 0 42) (cc3 c170_1) rfl ?_
  refine p_push (cc3 c170_4) ?_
  refine p_icmp (cc3 c170_6) (fun c => ?_) (fun c => ?_)
  · have h := h.1 c
    refine p_push (cc3 c170_9) ?_
    exact p_ri (cc3 c170_11) trivial h
  · have h := h.2 c
    refine p_ald (cc3 c170_12) rfl ?_
    obtain ⟨r, μ', he, h⟩ := h
    exact p_callV (cc3 c170_13) (Nat.le_of_ble_eq_true rfl) rfl rfl (Nat.le_of_ble_eq_true rfl) (ml_kd hΦ) he h
theorem B170_16 {ev : xV} {Q : Option Value → xM → Prop} {m : Nat} {Φ : (Nat → Nat → Int32) → xM} (hΦ : MLaw m Φ) {μ : Nat → Nat → Int32} {s0 : Int32} (h : ((s0 = 0) → Q (some (.int ((-100) - (μ 0 49)))) (Φ (U μ 0 1 0))) ∧ (¬ (s0 = 0) → Q (some (.int (((μ 0 42) + 1) - 1))) (Φ (U (U μ 0 1 0) 0 42 ((μ 0 42) + 1))))) : wpE (xT 170) ev Q (16, [(0, .ref m)], [.int s0], Φ μ) := by
  refine p_ist (ls' := [(1, .int s0), (0, .ref m)]) (cc3 c170_16) (by decide) rfl ?_
  refine p_ald (cc3 c170_17) rfl ?_
  refine pm_geti hΦ (v := μ 0 49) (cc3 c170_18) rfl ?_
  refine p_ist (ls' := [(2, .int (μ 0 49)), (1, .int s0), (0, .ref m)]) (cc3 c170_21) (by decide) rfl ?_
  refine p_ald (cc3 c170_22) rfl ?_
  refine p_push (cc3 c170_23) ?_
  refine pm_puti hΦ (cc3 c170_24) ?_
  refine p_ild (cc3 c170_27) rfl ?_
  refine p_if (cc3 c170_28) (fun c => ?_) (fun c => ?_)
  · have h := h.1 c
    refine p_push (cc3 c170_31) ?_
    refine p_ild (cc3 c170_33) rfl ?_
    refine p_bin (cc3 c170_34) ?_
    exact p_ri (cc3 c170_35) trivial h
  · have h := h.2 c
    refine p_ald (cc3 c170_36) rfl ?_
    refine p_dup (cc3 c170_37) rfl ?_
    refine pm_geti hΦ (v := μ 0 42) (cc3 c170_38) rfl ?_
    refine p_push (cc3 c170_41) ?_
    refine p_bin (cc3 c170_42) ?_
    refine pm_puti hΦ (cc3 c170_43) ?_
    refine p_ald (cc3 c170_46) rfl ?_
    refine pm_geti hΦ (v := (μ 0 42) + 1) (cc3 c170_47) rfl ?_
    refine p_push (cc3 c170_50) ?_
    refine p_bin (cc3 c170_51) ?_
    exact p_ri (cc3 c170_52) trivial h
theorem B171_0 {ev : xV} {Q : Option Value → xM → Prop} {m : Nat} {Φ : (Nat → Nat → Int32) → xM} (hΦ : MLaw m Φ) {μ : Nat → Nat → Int32} (h : (∃ μ', ev 172 [.ref m] (Φ (U μ 0 46 0)) none (Φ μ') ∧ wpE (xT 171) ev Q (9, [(0, .ref m)], [], Φ μ'))) : wpE (xT 171) ev Q (0, [(0, .ref m)], [], Φ μ) := by
  refine p_ald (cc3 c171_0) rfl ?_
  refine p_push (cc3 c171_1) ?_
  refine pm_puti hΦ (cc3 c171_2) ?_
  refine p_ald (cc3 c171_5) rfl ?_
  obtain ⟨μ', he, h⟩ := h
  exact p_callV (cc3 c171_6) (Nat.le_of_ble_eq_true rfl) rfl rfl (Nat.le_of_ble_eq_true rfl) (ml_kd hΦ) he h
theorem B171_9 {ev : xV} {Q : Option Value → xM → Prop} {m : Nat} {Φ : (Nat → Nat → Int32) → xM} (hΦ : MLaw m Φ) {μ : Nat → Nat → Int32} (h : wpE (xT 171) ev Q (11, [(0, .ref m), (1, .int 0)], [], Φ μ)) : wpE (xT 171) ev Q (9, [(0, .ref m)], [], Φ μ) := by
  refine p_push (cc3 c171_9) ?_
  refine p_ist (ls' := [(1, .int 0), (0, .ref m)]) (cc3 c171_10) (by decide) rfl ?_
  exact p_lc (ls' := [(0, .ref m), (1, .int 0)]) c171_11 rfl rfl h
theorem B171_11 {ev : xV} {Q : Option Value → xM → Prop} {m : Nat} {Φ : (Nat → Nat → Int32) → xM} (hΦ : MLaw m Φ) {μ : Nat → Nat → Int32} {x1 : Int32} (h : ((2 ≤ x1) → (((μ 0 47) = 0) → Q (some (.int 1)) (Φ μ)) ∧ (¬ ((μ 0 47) = 0) → Q (some (.int 0)) (Φ μ))) ∧ (¬ (2 ≤ x1) → (∃ r μ', ev 177 [.ref m, .int x1] (Φ μ) (some (.int r)) (Φ μ') ∧ wpE (xT 171) ev Q (21, [(0, .ref m), (1, .int x1)], [.int r], Φ μ')))) : wpE (xT 171) ev Q (11, [(0, .ref m), (1, .int x1)], [], Φ μ) := by
  refine p_ild (cct c171_11 rfl) rfl ?_
  refine p_push (cc3 c171_12) ?_
  refine p_icmp (cc3 c171_13) (fun c => ?_) (fun c => ?_)
  · have h := h.1 c
    refine p_ald (cc3 c171_61) rfl ?_
    refine pm_geti hΦ (v := μ 0 47) (cc3 c171_62) rfl ?_
    refine p_if (cc3 c171_65) (fun c => ?_) (fun c => ?_)
    · have h := h.1 c
      refine p_push (cc3 c171_68) ?_
      refine p_goto (cc3 c171_69) ?_
      refine p_lc (ls' := []) c171_73 rfl rfl ?_
      exact p_ri (cct c171_73 rfl) (by decide) h
    · have h := h.2 c
      refine p_push (cc3 c171_72) ?_
      refine p_lc (ls' := []) c171_73 rfl rfl ?_
      exact p_ri (cct c171_73 rfl) (by decide) h
  · have h := h.2 c
    refine p_ald (cc3 c171_16) rfl ?_
    refine p_ild (cc3 c171_17) rfl ?_
    obtain ⟨r, μ', he, h⟩ := h
    exact p_callV (cc3 c171_18) (Nat.le_of_ble_eq_true rfl) rfl rfl (Nat.le_of_ble_eq_true rfl) (ml_kd hΦ) he h
theorem B171_21 {ev : xV} {Q : Option Value → xM → Prop} {m : Nat} {Φ : (Nat → Nat → Int32) → xM} (hΦ : MLaw m Φ) {μ : Nat → Nat → Int32} {x1 s0 : Int32} (h : ((s0 = 0) → Q (some (.int 0)) (Φ μ)) ∧ (¬ (s0 = 0) → (∃ μ', ev 172 [.ref m] (Φ μ) none (Φ μ') ∧ wpE (xT 171) ev Q (30, [(0, .ref m), (1, .int x1)], [], Φ μ')))) : wpE (xT 171) ev Q (21, [(0, .ref m), (1, .int x1)], [.int s0], Φ μ) := by
  refine p_if (cc3 c171_21) (fun c => ?_) (fun c => ?_)
  · have h := h.1 c
    refine p_push (cc3 c171_24) ?_
    exact p_ri (cc3 c171_25) (by decide) h
  · have h := h.2 c
    refine p_ald (cc3 c171_26) rfl ?_
    obtain ⟨μ', he, h⟩ := h
    exact p_callV (cc3 c171_27) (Nat.le_of_ble_eq_true rfl) rfl rfl (Nat.le_of_ble_eq_true rfl) (ml_kd hΦ) he h
theorem B171_30 {ev : xV} {Q : Option Value → xM → Prop} {m : Nat} {Φ : (Nat → Nat → Int32) → xM} (hΦ : MLaw m Φ) {μ : Nat → Nat → Int32} {x1 : Int32} (h : (∃ r μ', ev 178 [.ref m] (Φ (U μ 0 55 ((2 * (μ 0 42)) + x1))) (some (.int r)) (Φ μ') ∧ wpE (xT 171) ev Q (46, [(0, .ref m), (1, .int x1)], [.int r], Φ μ'))) : wpE (xT 171) ev Q (30, [(0, .ref m), (1, .int x1)], [], Φ μ) := by
  refine p_ald (cc3 c171_30) rfl ?_
  refine p_push (cc3 c171_31) ?_
  refine p_ald (cc3 c171_32) rfl ?_
  refine pm_geti hΦ (v := μ 0 42) (cc3 c171_33) rfl ?_
  refine p_bin (cc3 c171_36) ?_
  refine p_ild (cc3 c171_37) rfl ?_
  refine p_bin (cc3 c171_38) ?_
  refine pm_puti hΦ (cc3 c171_39) ?_
  refine p_ald (cc3 c171_42) rfl ?_
  obtain ⟨r, μ', he, h⟩ := h
  exact p_callV (cc3 c171_43) (Nat.le_of_ble_eq_true rfl) rfl rfl (Nat.le_of_ble_eq_true rfl) (ml_kd hΦ) he h
theorem B171_46 {ev : xV} {Q : Option Value → xM → Prop} {m : Nat} {Φ : (Nat → Nat → Int32) → xM} (hΦ : MLaw m Φ) {μ : Nat → Nat → Int32} {x1 s0 : Int32} (h : ((s0 = 0) → Q (some (.int 0)) (Φ μ)) ∧ (¬ (s0 = 0) → (∃ μ', ev 172 [.ref m] (Φ μ) none (Φ μ') ∧ wpE (xT 171) ev Q (55, [(0, .ref m), (1, .int x1)], [], Φ μ')))) : wpE (xT 171) ev Q (46, [(0, .ref m), (1, .int x1)], [.int s0], Φ μ) := by
  refine p_if (cc3 c171_46) (fun c => ?_) (fun c => ?_)
  · have h := h.1 c
    refine p_push (cc3 c171_49) ?_
    exact p_ri (cc3 c171_50) (by decide) h
  · have h := h.2 c
    refine p_ald (cc3 c171_51) rfl ?_
    obtain ⟨μ', he, h⟩ := h
    exact p_callV (cc3 c171_52) (Nat.le_of_ble_eq_true rfl) rfl rfl (Nat.le_of_ble_eq_true rfl) (ml_kd hΦ) he h
theorem B171_55 {ev : xV} {Q : Option Value → xM → Prop} {m : Nat} {Φ : (Nat → Nat → Int32) → xM} (hΦ : MLaw m Φ) {μ : Nat → Nat → Int32} {x1 : Int32} (h : wpE (xT 171) ev Q (11, [(0, .ref m), (1, .int (x1 + 1))], [], Φ μ)) : wpE (xT 171) ev Q (55, [(0, .ref m), (1, .int x1)], [], Φ μ) := by
  refine p_iinc (y := x1 + 1) (ls' := [(1, .int (x1 + 1)), (0, .ref m)]) (cc3 c171_55) (by decide) rfl rfl rfl ?_
  refine p_goto (cc3 c171_58) ?_
  exact p_lc (ls' := [(0, .ref m), (1, .int (x1 + 1))]) c171_11 rfl rfl h
theorem B172_0 {ev : xV} {Q : Option Value → xM → Prop} {m : Nat} {Φ : (Nat → Nat → Int32) → xM} (hΦ : MLaw m Φ) {μ : Nat → Nat → Int32} (h : (((μ 0 1) ≤ (μ 0 46)) → wpE (xT 172) ev Q (52, [(0, .ref m)], [], Φ μ)) ∧ (¬ ((μ 0 1) ≤ (μ 0 46)) → vp_in (μ 0 46) 160 ∧ (((μ 1 (μ 0 46).toNatClampNeg) = 32) → wpE (xT 172) ev Q (0, [(0, .ref m)], [], Φ (U μ 0 46 ((μ 0 46) + 1)))) ∧ (¬ ((μ 1 (μ 0 46).toNatClampNeg) = 32) → vp_in (μ 0 46) 160 ∧ (((μ 1 (μ 0 46).toNatClampNeg) = 10) → wpE (xT 172) ev Q (0, [(0, .ref m)], [], Φ (U μ 0 46 ((μ 0 46) + 1)))) ∧ (¬ ((μ 1 (μ 0 46).toNatClampNeg) = 10) → wpE (xT 172) ev Q (52, [(0, .ref m)], [], Φ μ))))) : wpE (xT 172) ev Q (0, [(0, .ref m)], [], Φ μ) := by
  refine p_ald (cct c172_0 rfl) rfl ?_
  refine pm_geti hΦ (v := μ 0 46) (cc3 c172_1) rfl ?_
  refine p_ald (cc3 c172_4) rfl ?_
  refine pm_geti hΦ (v := μ 0 1) (cc3 c172_5) rfl ?_
  refine p_icmp (cc3 c172_8) (fun c => ?_) (fun c => ?_)
  · have h := h.1 c
    exact h
  · have h := h.2 c
    refine p_ald (cc3 c172_11) rfl ?_
    refine pm_getp hΦ (cc3 c172_12) (c := 1) rfl (by decide) ?_
    refine p_ald (cc3 c172_15) rfl ?_
    refine pm_geti hΦ (v := μ 0 46) (cc3 c172_16) rfl ?_
    obtain ⟨g, h⟩ := h
    refine pm_aldi hΦ (c := 1) (n := 160) (cc3 c172_19) (by decide) rfl rfl rfl g rfl ?_
    refine p_push (cc3 c172_20) ?_
    refine p_icmp (cc3 c172_22) (fun c => ?_) (fun c => ?_)
    · have h := h.1 c
      refine p_ald (cct c172_39 rfl) rfl ?_
      refine p_dup (cc3 c172_40) rfl ?_
      refine pm_geti hΦ (v := μ 0 46) (cc3 c172_41) rfl ?_
      refine p_push (cc3 c172_44) ?_
      refine p_bin (cc3 c172_45) ?_
      refine pm_puti hΦ (cc3 c172_46) ?_
      refine p_goto (cc3 c172_49) ?_
      exact h
    · have h := h.2 c
      refine p_ald (cc3 c172_25) rfl ?_
      refine pm_getp hΦ (cc3 c172_26) (c := 1) rfl (by decide) ?_
      refine p_ald (cc3 c172_29) rfl ?_
      refine pm_geti hΦ (v := μ 0 46) (cc3 c172_30) rfl ?_
      obtain ⟨g, h⟩ := h
      refine pm_aldi hΦ (c := 1) (n := 160) (cc3 c172_33) (by decide) rfl rfl rfl g rfl ?_
      refine p_push (cc3 c172_34) ?_
      refine p_icmp (cc3 c172_36) (fun c => ?_) (fun c => ?_)
      · have h := h.1 c
        refine p_ald (cct c172_39 rfl) rfl ?_
        refine p_dup (cc3 c172_40) rfl ?_
        refine pm_geti hΦ (v := μ 0 46) (cc3 c172_41) rfl ?_
        refine p_push (cc3 c172_44) ?_
        refine p_bin (cc3 c172_45) ?_
        refine pm_puti hΦ (cc3 c172_46) ?_
        refine p_goto (cc3 c172_49) ?_
        exact h
      · have h := h.2 c
        exact h
theorem B172_52 {ev : xV} {Q : Option Value → xM → Prop} {m : Nat} {Φ : (Nat → Nat → Int32) → xM} (hΦ : MLaw m Φ) {μ : Nat → Nat → Int32} (h : (((μ 0 46) = (μ 0 1)) → Q none (Φ (U (U μ 0 49 (μ 0 46)) 0 47 0))) ∧ (¬ ((μ 0 46) = (μ 0 1)) → vp_in (μ 0 46) 160 ∧ (∃ r μ', ev 173 [.ref m, .int ((U (U μ 0 49 (μ 0 46)) 0 47 0) 1 (μ 0 46).toNatClampNeg)] (Φ (U (U μ 0 49 (μ 0 46)) 0 47 0)) (some (.int r)) (Φ μ') ∧ wpE (xT 172) ev Q (92, [(1, .int ((U (U μ 0 49 (μ 0 46)) 0 47 0) 1 (μ 0 46).toNatClampNeg)), (0, .ref m)], [.int r], Φ μ')))) : wpE (xT 172) ev Q (52, [(0, .ref m)], [], Φ μ) := by
  refine p_ald (cct c172_52 rfl) rfl ?_
  refine p_ald (cc3 c172_53) rfl ?_
  refine pm_geti hΦ (v := μ 0 46) (cc3 c172_54) rfl ?_
  refine pm_puti hΦ (cc3 c172_57) ?_
  refine p_ald (cc3 c172_60) rfl ?_
  refine p_push (cc3 c172_61) ?_
  refine pm_puti hΦ (cc3 c172_62) ?_
  refine p_ald (cc3 c172_65) rfl ?_
  refine pm_geti hΦ (v := μ 0 46) (cc3 c172_66) rfl ?_
  refine p_ald (cc3 c172_69) rfl ?_
  refine pm_geti hΦ (v := μ 0 1) (cc3 c172_70) rfl ?_
  refine p_icmp (cc3 c172_73) (fun c => ?_) (fun c => ?_)
  · have h := h.1 c
    exact p_rv (cc3 c172_76) h
  · have h := h.2 c
    refine p_ald (cc3 c172_77) rfl ?_
    refine pm_getp hΦ (cc3 c172_78) (c := 1) rfl (by decide) ?_
    refine p_ald (cc3 c172_81) rfl ?_
    refine pm_geti hΦ (v := μ 0 46) (cc3 c172_82) rfl ?_
    obtain ⟨g, h⟩ := h
    refine pm_aldi hΦ (c := 1) (n := 160) (cc3 c172_85) (by decide) rfl rfl rfl g rfl ?_
    refine p_ist (ls' := [(1, .int ((U (U μ 0 49 (μ 0 46)) 0 47 0) 1 (μ 0 46).toNatClampNeg)), (0, .ref m)]) (cc3 c172_86) (by decide) rfl ?_
    refine p_ald (cc3 c172_87) rfl ?_
    refine p_ild (cc3 c172_88) rfl ?_
    obtain ⟨r, μ', he, h⟩ := h
    exact p_callV (cc3 c172_89) (Nat.le_of_ble_eq_true rfl) rfl rfl (Nat.le_of_ble_eq_true rfl) (ml_kd hΦ) he h
theorem B172_92 {ev : xV} {Q : Option Value → xM → Prop} {m : Nat} {Φ : (Nat → Nat → Int32) → xM} (hΦ : MLaw m Φ) {μ : Nat → Nat → Int32} {x1 s0 : Int32} (h : ((s0 = 0) → (∃ r μ', ev 176 [.ref m, .int x1] (Φ μ) (some (.int r)) (Φ μ') ∧ wpE (xT 172) ev Q (105, [(1, .int x1), (0, .ref m)], [.int r], Φ μ'))) ∧ (¬ (s0 = 0) → (∃ μ', ev 174 [.ref m] (Φ μ) none (Φ μ') ∧ wpE (xT 172) ev Q (99, [(1, .int x1), (0, .ref m)], [], Φ μ')))) : wpE (xT 172) ev Q (92, [(1, .int x1), (0, .ref m)], [.int s0], Φ μ) := by
  refine p_if (cc3 c172_92) (fun c => ?_) (fun c => ?_)
  · have h := h.1 c
    refine p_ald (cc3 c172_100) rfl ?_
    refine p_ild (cc3 c172_101) rfl ?_
    obtain ⟨r, μ', he, h⟩ := h
    exact p_callV (cc3 c172_102) (Nat.le_of_ble_eq_true rfl) rfl rfl (Nat.le_of_ble_eq_true rfl) (ml_kd hΦ) he h
  · have h := h.2 c
    refine p_ald (cc3 c172_95) rfl ?_
    obtain ⟨μ', he, h⟩ := h
    exact p_callV (cc3 c172_96) (Nat.le_of_ble_eq_true rfl) rfl rfl (Nat.le_of_ble_eq_true rfl) (ml_kd hΦ) he h
theorem B172_99 {ev : xV} {Q : Option Value → xM → Prop} {m : Nat} {Φ : (Nat → Nat → Int32) → xM} (hΦ : MLaw m Φ) {μ : Nat → Nat → Int32} {x1 : Int32} (h : Q none (Φ μ)) : wpE (xT 172) ev Q (99, [(1, .int x1), (0, .ref m)], [], Φ μ) := by
  exact p_rv (cc3 c172_99) h
theorem B172_105 {ev : xV} {Q : Option Value → xM → Prop} {m : Nat} {Φ : (Nat → Nat → Int32) → xM} (hΦ : MLaw m Φ) {μ : Nat → Nat → Int32} {x1 s0 : Int32} (h : ((s0 = 0) → ((x1 = 40) → Q none (Φ (U (U (U μ 0 46 ((μ 0 46) + 1)) 0 48 x1) 0 47 4))) ∧ (¬ (x1 = 40) → ((x1 = 41) → Q none (Φ (U (U (U μ 0 46 ((μ 0 46) + 1)) 0 48 x1) 0 47 4))) ∧ (¬ (x1 = 41) → ((x1 = 59) → Q none (Φ (U (U (U μ 0 46 ((μ 0 46) + 1)) 0 48 x1) 0 47 4))) ∧ (¬ (x1 = 59) → ((x1 = 43) → Q none (Φ (U (U (U μ 0 46 ((μ 0 46) + 1)) 0 48 x1) 0 47 4))) ∧ (¬ (x1 = 43) → ((x1 = 45) → Q none (Φ (U (U (U μ 0 46 ((μ 0 46) + 1)) 0 48 x1) 0 47 4))) ∧ (¬ (x1 = 45) → ((x1 = 42) → Q none (Φ (U (U (U μ 0 46 ((μ 0 46) + 1)) 0 48 x1) 0 47 4))) ∧ (¬ (x1 = 42) → ((x1 = 60) → Q none (Φ (U (U (U μ 0 46 ((μ 0 46) + 1)) 0 48 x1) 0 47 4))) ∧ (¬ (x1 = 60) → ((x1 = 61) → Q none (Φ (U (U (U μ 0 46 ((μ 0 46) + 1)) 0 48 x1) 0 47 4))) ∧ (¬ (x1 = 61) → Q none (Φ (U (U (U μ 0 46 ((μ 0 46) + 1)) 0 48 x1) 0 47 5))))))))))) ∧ (¬ (s0 = 0) → wpE (xT 172) ev Q (113, [(0, .ref m)], [], Φ (U μ 0 48 0)))) : wpE (xT 172) ev Q (105, [(1, .int x1), (0, .ref m)], [.int s0], Φ μ) := by
  refine p_if (cc3 c172_105) (fun c => ?_) (fun c => ?_)
  · have h := h.1 c
    refine p_ald (cc3 c172_220) rfl ?_
    refine p_dup (cc3 c172_221) rfl ?_
    refine pm_geti hΦ (v := μ 0 46) (cc3 c172_222) rfl ?_
    refine p_push (cc3 c172_225) ?_
    refine p_bin (cc3 c172_226) ?_
    refine pm_puti hΦ (cc3 c172_227) ?_
    refine p_ald (cc3 c172_230) rfl ?_
    refine p_ild (cc3 c172_231) rfl ?_
    refine pm_puti hΦ (cc3 c172_232) ?_
    refine p_ald (cc3 c172_235) rfl ?_
    refine p_ild (cc3 c172_236) rfl ?_
    refine p_push (cc3 c172_237) ?_
    refine p_icmp (cc3 c172_239) (fun c => ?_) (fun c => ?_)
    · have h := h.1 c
      refine p_lc (ls' := []) c172_284 rfl rfl ?_
      refine p_push (cct c172_284 rfl) ?_
      refine p_goto (cc3 c172_285) ?_
      refine pm_puti hΦ (cct c172_289 rfl) ?_
      exact p_rv (cc3 c172_292) h
    · have h := h.2 c
      refine p_ild (cc3 c172_242) rfl ?_
      refine p_push (cc3 c172_243) ?_
      refine p_icmp (cc3 c172_245) (fun c => ?_) (fun c => ?_)
      · have h := h.1 c
        refine p_lc (ls' := []) c172_284 rfl rfl ?_
        refine p_push (cct c172_284 rfl) ?_
        refine p_goto (cc3 c172_285) ?_
        refine pm_puti hΦ (cct c172_289 rfl) ?_
        exact p_rv (cc3 c172_292) h
      · have h := h.2 c
        refine p_ild (cc3 c172_248) rfl ?_
        refine p_push (cc3 c172_249) ?_
        refine p_icmp (cc3 c172_251) (fun c => ?_) (fun c => ?_)
        · have h := h.1 c
          refine p_lc (ls' := []) c172_284 rfl rfl ?_
          refine p_push (cct c172_284 rfl) ?_
          refine p_goto (cc3 c172_285) ?_
          refine pm_puti hΦ (cct c172_289 rfl) ?_
          exact p_rv (cc3 c172_292) h
        · have h := h.2 c
          refine p_ild (cc3 c172_254) rfl ?_
          refine p_push (cc3 c172_255) ?_
          refine p_icmp (cc3 c172_257) (fun c => ?_) (fun c => ?_)
          · have h := h.1 c
            refine p_lc (ls' := []) c172_284 rfl rfl ?_
            refine p_push (cct c172_284 rfl) ?_
            refine p_goto (cc3 c172_285) ?_
            refine pm_puti hΦ (cct c172_289 rfl) ?_
            exact p_rv (cc3 c172_292) h
          · have h := h.2 c
            refine p_ild (cc3 c172_260) rfl ?_
            refine p_push (cc3 c172_261) ?_
            refine p_icmp (cc3 c172_263) (fun c => ?_) (fun c => ?_)
            · have h := h.1 c
              refine p_lc (ls' := []) c172_284 rfl rfl ?_
              refine p_push (cct c172_284 rfl) ?_
              refine p_goto (cc3 c172_285) ?_
              refine pm_puti hΦ (cct c172_289 rfl) ?_
              exact p_rv (cc3 c172_292) h
            · have h := h.2 c
              refine p_ild (cc3 c172_266) rfl ?_
              refine p_push (cc3 c172_267) ?_
              refine p_icmp (cc3 c172_269) (fun c => ?_) (fun c => ?_)
              · have h := h.1 c
                refine p_lc (ls' := []) c172_284 rfl rfl ?_
                refine p_push (cct c172_284 rfl) ?_
                refine p_goto (cc3 c172_285) ?_
                refine pm_puti hΦ (cct c172_289 rfl) ?_
                exact p_rv (cc3 c172_292) h
              · have h := h.2 c
                refine p_ild (cc3 c172_272) rfl ?_
                refine p_push (cc3 c172_273) ?_
                refine p_icmp (cc3 c172_275) (fun c => ?_) (fun c => ?_)
                · have h := h.1 c
                  refine p_lc (ls' := []) c172_284 rfl rfl ?_
                  refine p_push (cct c172_284 rfl) ?_
                  refine p_goto (cc3 c172_285) ?_
                  refine pm_puti hΦ (cct c172_289 rfl) ?_
                  exact p_rv (cc3 c172_292) h
                · have h := h.2 c
                  refine p_ild (cc3 c172_278) rfl ?_
                  refine p_push (cc3 c172_279) ?_
                  refine p_icmp (cc3 c172_281) (fun c => ?_) (fun c => ?_)
                  · have h := h.1 c
                    refine p_lc (ls' := []) c172_284 rfl rfl ?_
                    refine p_push (cct c172_284 rfl) ?_
                    refine p_goto (cc3 c172_285) ?_
                    refine pm_puti hΦ (cct c172_289 rfl) ?_
                    exact p_rv (cc3 c172_292) h
                  · have h := h.2 c
                    refine p_push (cc3 c172_288) ?_
                    refine p_lc (ls' := []) c172_289 rfl rfl ?_
                    refine pm_puti hΦ (cct c172_289 rfl) ?_
                    exact p_rv (cc3 c172_292) h
  · have h := h.2 c
    refine p_ald (cc3 c172_108) rfl ?_
    refine p_push (cc3 c172_109) ?_
    refine pm_puti hΦ (cc3 c172_110) ?_
    exact p_lc (ls' := [(0, .ref m)]) c172_113 rfl rfl h
theorem B172_113 {ev : xV} {Q : Option Value → xM → Prop} {m : Nat} {Φ : (Nat → Nat → Int32) → xM} (hΦ : MLaw m Φ) {μ : Nat → Nat → Int32} (h : (((μ 0 1) ≤ (μ 0 46)) → wpE (xT 172) ev Q (197, [(0, .ref m)], [], Φ μ)) ∧ (¬ ((μ 0 1) ≤ (μ 0 46)) → vp_in (μ 0 46) 160 ∧ (∃ r μ', ev 176 [.ref m, .int (μ 1 (μ 0 46).toNatClampNeg)] (Φ μ) (some (.int r)) (Φ μ') ∧ wpE (xT 172) ev Q (137, [(0, .ref m)], [.int r], Φ μ')))) : wpE (xT 172) ev Q (113, [(0, .ref m)], [], Φ μ) := by
  refine p_ald (cct c172_113 rfl) rfl ?_
  refine pm_geti hΦ (v := μ 0 46) (cc3 c172_114) rfl ?_
  refine p_ald (cc3 c172_117) rfl ?_
  refine pm_geti hΦ (v := μ 0 1) (cc3 c172_118) rfl ?_
  refine p_icmp (cc3 c172_121) (fun c => ?_) (fun c => ?_)
  · have h := h.1 c
    exact h
  · have h := h.2 c
    refine p_ald (cc3 c172_124) rfl ?_
    refine p_ald (cc3 c172_125) rfl ?_
    refine pm_getp hΦ (cc3 c172_126) (c := 1) rfl (by decide) ?_
    refine p_ald (cc3 c172_129) rfl ?_
    refine pm_geti hΦ (v := μ 0 46) (cc3 c172_130) rfl ?_
    obtain ⟨g, h⟩ := h
    refine pm_aldi hΦ (c := 1) (n := 160) (cc3 c172_133) (by decide) rfl rfl rfl g rfl ?_
    obtain ⟨r, μ', he, h⟩ := h
    exact p_callV (cc3 c172_134) (Nat.le_of_ble_eq_true rfl) rfl rfl (Nat.le_of_ble_eq_true rfl) (ml_kd hΦ) he h
theorem B172_137 {ev : xV} {Q : Option Value → xM → Prop} {m : Nat} {Φ : (Nat → Nat → Int32) → xM} (hΦ : MLaw m Φ) {μ : Nat → Nat → Int32} {s0 : Int32} (h : ((s0 = 0) → wpE (xT 172) ev Q (197, [(0, .ref m)], [], Φ μ)) ∧ (¬ (s0 = 0) → ((4 ≤ ((μ 0 46) - (μ 0 49))) → wpE (xT 172) ev Q (113, [(0, .ref m)], [], Φ (U (U μ 0 48 (μ 0 48)) 0 46 ((μ 0 46) + 1)))) ∧ (¬ (4 ≤ ((μ 0 46) - (μ 0 49))) → vp_in (μ 0 46) 160 ∧ wpE (xT 172) ev Q (113, [(0, .ref m)], [], Φ (U (U μ 0 48 (((10 * (μ 0 48)) + (μ 1 (μ 0 46).toNatClampNeg)) - 48)) 0 46 ((μ 0 46) + 1)))))) : wpE (xT 172) ev Q (137, [(0, .ref m)], [.int s0], Φ μ) := by
  refine p_if (cc3 c172_137) (fun c => ?_) (fun c => ?_)
  · have h := h.1 c
    exact h
  · have h := h.2 c
    refine p_ald (cc3 c172_140) rfl ?_
    refine p_ald (cc3 c172_141) rfl ?_
    refine pm_geti hΦ (v := μ 0 46) (cc3 c172_142) rfl ?_
    refine p_ald (cc3 c172_145) rfl ?_
    refine pm_geti hΦ (v := μ 0 49) (cc3 c172_146) rfl ?_
    refine p_bin (cc3 c172_149) ?_
    refine p_push (cc3 c172_150) ?_
    refine p_icmp (cc3 c172_151) (fun c => ?_) (fun c => ?_)
    · have h := h.1 c
      refine p_ald (cc3 c172_177) rfl ?_
      refine pm_geti hΦ (v := μ 0 48) (cc3 c172_178) rfl ?_
      refine pm_puti hΦ (cct c172_181 rfl) ?_
      refine p_ald (cc3 c172_184) rfl ?_
      refine p_dup (cc3 c172_185) rfl ?_
      refine pm_geti hΦ (v := μ 0 46) (cc3 c172_186) rfl ?_
      refine p_push (cc3 c172_189) ?_
      refine p_bin (cc3 c172_190) ?_
      refine pm_puti hΦ (cc3 c172_191) ?_
      refine p_goto (cc3 c172_194) ?_
      exact h
    · have h := h.2 c
      refine p_push (cc3 c172_154) ?_
      refine p_ald (cc3 c172_156) rfl ?_
      refine pm_geti hΦ (v := μ 0 48) (cc3 c172_157) rfl ?_
      refine p_bin (cc3 c172_160) ?_
      refine p_ald (cc3 c172_161) rfl ?_
      refine pm_getp hΦ (cc3 c172_162) (c := 1) rfl (by decide) ?_
      refine p_ald (cc3 c172_165) rfl ?_
      refine pm_geti hΦ (v := μ 0 46) (cc3 c172_166) rfl ?_
      obtain ⟨g, h⟩ := h
      refine pm_aldi hΦ (c := 1) (n := 160) (cc3 c172_169) (by decide) rfl rfl rfl g rfl ?_
      refine p_bin (cc3 c172_170) ?_
      refine p_push (cc3 c172_171) ?_
      refine p_bin (cc3 c172_173) ?_
      refine p_goto (cc3 c172_174) ?_
      refine pm_puti hΦ (cct c172_181 rfl) ?_
      refine p_ald (cc3 c172_184) rfl ?_
      refine p_dup (cc3 c172_185) rfl ?_
      refine pm_geti hΦ (v := μ 0 46) (cc3 c172_186) rfl ?_
      refine p_push (cc3 c172_189) ?_
      refine p_bin (cc3 c172_190) ?_
      refine pm_puti hΦ (cc3 c172_191) ?_
      refine p_goto (cc3 c172_194) ?_
      exact h
theorem B172_197 {ev : xV} {Q : Option Value → xM → Prop} {m : Nat} {Φ : (Nat → Nat → Int32) → xM} (hΦ : MLaw m Φ) {μ : Nat → Nat → Int32} (h : ((((μ 0 46) - (μ 0 49)) ≤ 4) → Q none (Φ (U μ 0 47 1))) ∧ (¬ (((μ 0 46) - (μ 0 49)) ≤ 4) → Q none (Φ (U μ 0 47 5)))) : wpE (xT 172) ev Q (197, [(0, .ref m)], [], Φ μ) := by
  refine p_ald (cct c172_197 rfl) rfl ?_
  refine p_ald (cc3 c172_198) rfl ?_
  refine pm_geti hΦ (v := μ 0 46) (cc3 c172_199) rfl ?_
  refine p_ald (cc3 c172_202) rfl ?_
  refine pm_geti hΦ (v := μ 0 49) (cc3 c172_203) rfl ?_
  refine p_bin (cc3 c172_206) ?_
  refine p_push (cc3 c172_207) ?_
  refine p_icmp (cc3 c172_208) (fun c => ?_) (fun c => ?_)
  · have h := h.1 c
    refine p_push (cc3 c172_215) ?_
    refine p_lc (ls' := []) c172_216 rfl rfl ?_
    refine pm_puti hΦ (cct c172_216 rfl) ?_
    exact p_rv (cc3 c172_219) h
  · have h := h.2 c
    refine p_push (cc3 c172_211) ?_
    refine p_goto (cc3 c172_212) ?_
    refine p_lc (ls' := []) c172_216 rfl rfl ?_
    refine pm_puti hΦ (cct c172_216 rfl) ?_
    exact p_rv (cc3 c172_219) h
