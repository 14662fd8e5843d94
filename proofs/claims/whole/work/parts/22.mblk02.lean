theorem B151_0 {ev : xV} {Q : Option Value → xM → Prop} {m : Nat} {Φ : (Nat → Nat → Int32) → xM} (hΦ : MLaw m Φ) {μ : Nat → Nat → Int32} {x1 x2 x3 : Int32} (h : vp_in x3 5 ∧ vp_in x1 8 ∧ (∃ r μ', ev 137 [.ref m, .int x3, .int 0] (Φ (U (U μ 0 32 (μ 3 x3.toNatClampNeg)) 0 41 1000000)) (some (.int r)) (Φ μ') ∧ wpE (xT 151) ev Q (32, [(0, .ref m), (1, .int x1), (2, .int x2), (3, .int x3)], [.int r, .int (((U (U μ 0 32 (μ 3 x3.toNatClampNeg)) 0 41 1000000) 18 x1.toNatClampNeg) / 2), .int 0, .ref m], Φ μ'))) : wpE (xT 151) ev Q (0, [(0, .ref m), (1, .int x1), (2, .int x2), (3, .int x3)], [], Φ μ) := by
  refine p_ald (cc3 c151_0) rfl ?_
  refine p_ald (cc3 c151_1) rfl ?_
  refine pm_getp hΦ (cc3 c151_2) (c := 3) rfl (by decide) ?_
  refine p_ild (cc3 c151_5) rfl ?_
  obtain ⟨g, h⟩ := h
  refine pm_aldi hΦ (c := 3) (n := 5) (cc3 c151_6) (by decide) rfl rfl rfl g rfl ?_
  refine pm_puti hΦ (cc3 c151_7) ?_
  refine p_ald (cc3 c151_10) rfl ?_
  refine p_push (cc3 c151_11) ?_
  refine pm_puti hΦ (cc3 c151_13) ?_
  refine p_ald (cc3 c151_16) rfl ?_
  refine p_push (cc3 c151_17) ?_
  refine p_ald (cc3 c151_18) rfl ?_
  refine pm_getp hΦ (cc3 c151_19) (c := 18) rfl (by decide) ?_
  refine p_ild (cc3 c151_22) rfl ?_
  obtain ⟨g, h⟩ := h
  refine pm_aldi hΦ (c := 18) (n := 8) (cc3 c151_23) (by decide) rfl rfl rfl g rfl ?_
  refine p_push (cc3 c151_24) ?_
  refine p_div (cc3 c151_25) (by decide) ?_
  refine p_ald (cc3 c151_26) rfl ?_
  refine p_ild (cc3 c151_27) rfl ?_
  refine p_push (cc3 c151_28) ?_
  obtain ⟨r, μ', he, h⟩ := h
  exact p_callV (cc3 c151_29) (Nat.le_of_ble_eq_true rfl) rfl rfl (Nat.le_of_ble_eq_true rfl) (ml_kd hΦ) he h
theorem B151_32 {ev : xV} {Q : Option Value → xM → Prop} {m : Nat} {Φ : (Nat → Nat → Int32) → xM} (hΦ : MLaw m Φ) {μ : Nat → Nat → Int32} {x1 x2 x3 s0 s1 s2 : Int32} (h : (∃ r μ', ev 152 [.ref m, .int s2, .int s1, .int s0] (Φ μ) (some (.int r)) (Φ μ') ∧ wpE (xT 151) ev Q (35, [(0, .ref m), (1, .int x1), (2, .int x2), (3, .int x3)], [.int r], Φ μ'))) : wpE (xT 151) ev Q (32, [(0, .ref m), (1, .int x1), (2, .int x2), (3, .int x3)], [.int s0, .int s1, .int s2, .ref m], Φ μ) := by
  obtain ⟨r, μ', he, h⟩ := h
  exact p_callV (cc3 c151_32) (Nat.le_of_ble_eq_true rfl) rfl rfl (Nat.le_of_ble_eq_true rfl) (ml_kd hΦ) he h
theorem B151_35 {ev : xV} {Q : Option Value → xM → Prop} {m : Nat} {Φ : (Nat → Nat → Int32) → xM} (hΦ : MLaw m Φ) {μ : Nat → Nat → Int32} {x1 x2 x3 s0 : Int32} (h : wpE (xT 151) ev Q (40, [(0, .ref m), (1, .int x1), (2, .int x2), (3, .int x3), (4, .int s0), (5, .int 0)], [], Φ μ)) : wpE (xT 151) ev Q (35, [(0, .ref m), (1, .int x1), (2, .int x2), (3, .int x3)], [.int s0], Φ μ) := by
  refine p_ist (ls' := [(4, .int s0), (0, .ref m), (1, .int x1), (2, .int x2), (3, .int x3)]) (cc3 c151_35) (by decide) rfl ?_
  refine p_push (cc3 c151_37) ?_
  refine p_ist (ls' := [(5, .int 0), (4, .int s0), (0, .ref m), (1, .int x1), (2, .int x2), (3, .int x3)]) (cc3 c151_38) (by decide) rfl ?_
  exact p_lc (ls' := [(0, .ref m), (1, .int x1), (2, .int x2), (3, .int x3), (4, .int s0), (5, .int 0)]) c151_40 rfl rfl h
theorem B151_40 {ev : xV} {Q : Option Value → xM → Prop} {m : Nat} {Φ : (Nat → Nat → Int32) → xM} (hΦ : MLaw m Φ) {μ : Nat → Nat → Int32} {x1 x2 x3 x4 x5 : Int32} (h : ((4 ≤ x5) → Q (some (.int (μ 0 41))) (Φ μ)) ∧ (¬ (4 ≤ x5) → vp_in x1 8 ∧ (∃ r μ', ev 144 [.ref m, .int x2, .int (x4 + (x5 * (μ 0 32))), .int (μ 18 x1.toNatClampNeg)] (Φ μ) (some (.int r)) (Φ μ') ∧ wpE (xT 151) ev Q (71, [(6, .int (x4 + (x5 * (μ 0 32)))), (0, .ref m), (1, .int x1), (2, .int x2), (3, .int x3), (4, .int x4), (5, .int x5)], [.int r], Φ μ')))) : wpE (xT 151) ev Q (40, [(0, .ref m), (1, .int x1), (2, .int x2), (3, .int x3), (4, .int x4), (5, .int x5)], [], Φ μ) := by
  refine p_ild (cct c151_40 rfl) rfl ?_
  refine p_push (cc3 c151_42) ?_
  refine p_icmp (cc3 c151_43) (fun c => ?_) (fun c => ?_)
  · have h := h.1 c
    refine p_ald (cc3 c151_216) rfl ?_
    refine pm_geti hΦ (v := μ 0 41) (cc3 c151_217) rfl ?_
    exact p_ri (cc3 c151_220) trivial h
  · have h := h.2 c
    refine p_ild (cc3 c151_46) rfl ?_
    refine p_ild (cc3 c151_48) rfl ?_
    refine p_ald (cc3 c151_50) rfl ?_
    refine pm_geti hΦ (v := μ 0 32) (cc3 c151_51) rfl ?_
    refine p_bin (cc3 c151_54) ?_
    refine p_bin (cc3 c151_55) ?_
    refine p_ist (ls' := [(6, .int (x4 + (x5 * (μ 0 32)))), (0, .ref m), (1, .int x1), (2, .int x2), (3, .int x3), (4, .int x4), (5, .int x5)]) (cc3 c151_56) (by decide) rfl ?_
    refine p_ald (cc3 c151_58) rfl ?_
    refine p_ild (cc3 c151_59) rfl ?_
    refine p_ild (cc3 c151_60) rfl ?_
    refine p_ald (cc3 c151_62) rfl ?_
    refine pm_getp hΦ (cc3 c151_63) (c := 18) rfl (by decide) ?_
    refine p_ild (cc3 c151_66) rfl ?_
    obtain ⟨g, h⟩ := h
    refine pm_aldi hΦ (c := 18) (n := 8) (cc3 c151_67) (by decide) rfl rfl rfl g rfl ?_
    obtain ⟨r, μ', he, h⟩ := h
    exact p_callV (cc3 c151_68) (Nat.le_of_ble_eq_true rfl) rfl rfl (Nat.le_of_ble_eq_true rfl) (ml_kd hΦ) he h
theorem B151_71 {ev : xV} {Q : Option Value → xM → Prop} {m : Nat} {Φ : (Nat → Nat → Int32) → xM} (hΦ : MLaw m Φ) {μ : Nat → Nat → Int32} {x6 x1 x2 x3 x4 x5 s0 : Int32} (h : ((s0 = 0) → vp_in x1 8 ∧ (∃ r μ', ev 150 [.ref m, .int x1] (Φ (U μ 29 0 (x6 + (μ 18 x1.toNatClampNeg)))) (some (.int r)) (Φ μ') ∧ wpE (xT 151) ev Q (97, [(6, .int x6), (0, .ref m), (1, .int x1), (2, .int x2), (3, .int x3), (4, .int x4), (5, .int x5)], [.int r], Φ μ'))) ∧ (¬ (s0 = 0) → wpE (xT 151) ev Q (40, [(0, .ref m), (1, .int x1), (2, .int x2), (3, .int x3), (4, .int x4), (5, .int (x5 + 1))], [], Φ μ))) : wpE (xT 151) ev Q (71, [(6, .int x6), (0, .ref m), (1, .int x1), (2, .int x2), (3, .int x3), (4, .int x4), (5, .int x5)], [.int s0], Φ μ) := by
  refine p_if (cc3 c151_71) (fun c => ?_) (fun c => ?_)
  · have h := h.1 c
    refine p_ald (cc3 c151_77) rfl ?_
    refine pm_getp hΦ (cc3 c151_78) (c := 29) rfl (by decide) ?_
    refine p_push (cc3 c151_81) ?_
    refine p_ild (cc3 c151_82) rfl ?_
    refine p_ald (cc3 c151_84) rfl ?_
    refine pm_getp hΦ (cc3 c151_85) (c := 18) rfl (by decide) ?_
    refine p_ild (cc3 c151_88) rfl ?_
    obtain ⟨g, h⟩ := h
    refine pm_aldi hΦ (c := 18) (n := 8) (cc3 c151_89) (by decide) rfl rfl rfl g rfl ?_
    refine p_bin (cc3 c151_90) ?_
    refine pm_asti hΦ (c := 29) (n := 24) (k9 := 0) (cc3 c151_91) (by decide) rfl rfl (by decide) (by unfold vp_in; decide) ?_
    refine p_ald (cc3 c151_92) rfl ?_
    refine p_ild (cc3 c151_93) rfl ?_
    obtain ⟨r, μ', he, h⟩ := h
    exact p_callV (cc3 c151_94) (Nat.le_of_ble_eq_true rfl) rfl rfl (Nat.le_of_ble_eq_true rfl) (ml_kd hΦ) he h
  · have h := h.2 c
    refine p_goto (cc3 c151_74) ?_
    refine p_lc (ls' := [(0, .ref m), (1, .int x1), (2, .int x2), (3, .int x3), (4, .int x4), (5, .int x5)]) c151_210 rfl rfl ?_
    refine p_iinc (y := x5 + 1) (ls' := [(5, .int (x5 + 1)), (0, .ref m), (1, .int x1), (2, .int x2), (3, .int x3), (4, .int x4)]) (cct c151_210 rfl) (by decide) rfl rfl rfl ?_
    refine p_goto (cc3 c151_213) ?_
    exact p_lc (ls' := [(0, .ref m), (1, .int x1), (2, .int x2), (3, .int x3), (4, .int x4), (5, .int (x5 + 1))]) c151_40 rfl rfl h
theorem B151_97 {ev : xV} {Q : Option Value → xM → Prop} {m : Nat} {Φ : (Nat → Nat → Int32) → xM} (hΦ : MLaw m Φ) {μ : Nat → Nat → Int32} {x6 x1 x2 x3 x4 x5 s0 : Int32} (h : ((s0 = 0) → wpE (xT 151) ev Q (138, [(0, .ref m), (1, .int x1), (2, .int x2), (3, .int x3), (4, .int x4), (5, .int x5), (6, .int x6), (7, .int 1)], [], Φ μ)) ∧ (¬ (s0 = 0) → vp_in x1 8 ∧ vp_in x1 8 ∧ (∃ r μ', ev 137 [.ref m, .int x3, .int (μ 16 x1.toNatClampNeg)] (Φ μ) (some (.int r)) (Φ μ') ∧ wpE (xT 151) ev Q (131, [(6, .int x6), (0, .ref m), (1, .int x1), (2, .int x2), (3, .int x3), (4, .int x4), (5, .int x5)], [.int r, .int ((μ 17 x1.toNatClampNeg) / 2), .int (μ 29 0), .ref m, .int 0, .ref (m + 29)], Φ μ')))) : wpE (xT 151) ev Q (97, [(6, .int x6), (0, .ref m), (1, .int x1), (2, .int x2), (3, .int x3), (4, .int x4), (5, .int x5)], [.int s0], Φ μ) := by
  refine p_if (cc3 c151_97) (fun c => ?_) (fun c => ?_)
  · have h := h.1 c
    refine p_lc (ls' := [(0, .ref m), (1, .int x1), (2, .int x2), (3, .int x3), (4, .int x4), (5, .int x5), (6, .int x6)]) c151_135 rfl rfl ?_
    refine p_push (cct c151_135 rfl) ?_
    refine p_ist (ls' := [(7, .int 1), (0, .ref m), (1, .int x1), (2, .int x2), (3, .int x3), (4, .int x4), (5, .int x5), (6, .int x6)]) (cc3 c151_136) (by decide) rfl ?_
    exact p_lc (ls' := [(0, .ref m), (1, .int x1), (2, .int x2), (3, .int x3), (4, .int x4), (5, .int x5), (6, .int x6), (7, .int 1)]) c151_138 rfl rfl h
  · have h := h.2 c
    refine p_ald (cc3 c151_100) rfl ?_
    refine pm_getp hΦ (cc3 c151_101) (c := 29) rfl (by decide) ?_
    refine p_push (cc3 c151_104) ?_
    refine p_ald (cc3 c151_105) rfl ?_
    refine p_ald (cc3 c151_106) rfl ?_
    refine pm_getp hΦ (cc3 c151_107) (c := 29) rfl (by decide) ?_
    refine p_push (cc3 c151_110) ?_
    refine pm_aldi hΦ (c := 29) (n := 24) (k9 := 0) (cc3 c151_111) (by decide) rfl rfl (by decide) (by unfold vp_in; decide) rfl ?_
    refine p_ald (cc3 c151_112) rfl ?_
    refine pm_getp hΦ (cc3 c151_113) (c := 17) rfl (by decide) ?_
    refine p_ild (cc3 c151_116) rfl ?_
    obtain ⟨g, h⟩ := h
    refine pm_aldi hΦ (c := 17) (n := 8) (cc3 c151_117) (by decide) rfl rfl rfl g rfl ?_
    refine p_push (cc3 c151_118) ?_
    refine p_div (cc3 c151_119) (by decide) ?_
    refine p_ald (cc3 c151_120) rfl ?_
    refine p_ild (cc3 c151_121) rfl ?_
    refine p_ald (cc3 c151_122) rfl ?_
    refine pm_getp hΦ (cc3 c151_123) (c := 16) rfl (by decide) ?_
    refine p_ild (cc3 c151_126) rfl ?_
    obtain ⟨g, h⟩ := h
    refine pm_aldi hΦ (c := 16) (n := 8) (cc3 c151_127) (by decide) rfl rfl rfl g rfl ?_
    obtain ⟨r, μ', he, h⟩ := h
    exact p_callV (cc3 c151_128) (Nat.le_of_ble_eq_true rfl) rfl rfl (Nat.le_of_ble_eq_true rfl) (ml_kd hΦ) he h
theorem B151_131 {ev : xV} {Q : Option Value → xM → Prop} {m : Nat} {Φ : (Nat → Nat → Int32) → xM} (hΦ : MLaw m Φ) {μ : Nat → Nat → Int32} {x6 x1 x2 x3 x4 x5 s0 s1 s2 s4 : Int32} (h : (∃ r μ', ev 152 [.ref m, .int s2, .int s1, .int s0] (Φ μ) (some (.int r)) (Φ μ') ∧ wpE (xT 151) ev Q (134, [(6, .int x6), (0, .ref m), (1, .int x1), (2, .int x2), (3, .int x3), (4, .int x4), (5, .int x5)], [.int r, .int s4, .ref (m + 29)], Φ μ'))) : wpE (xT 151) ev Q (131, [(6, .int x6), (0, .ref m), (1, .int x1), (2, .int x2), (3, .int x3), (4, .int x4), (5, .int x5)], [.int s0, .int s1, .int s2, .ref m, .int s4, .ref (m + 29)], Φ μ) := by
  obtain ⟨r, μ', he, h⟩ := h
  exact p_callV (cc3 c151_131) (Nat.le_of_ble_eq_true rfl) rfl rfl (Nat.le_of_ble_eq_true rfl) (ml_kd hΦ) he h
theorem B151_134 {ev : xV} {Q : Option Value → xM → Prop} {m : Nat} {Φ : (Nat → Nat → Int32) → xM} (hΦ : MLaw m Φ) {μ : Nat → Nat → Int32} {x6 x1 x2 x3 x4 x5 s0 s1 : Int32} (h : vp_in s1 24 ∧ wpE (xT 151) ev Q (138, [(0, .ref m), (1, .int x1), (2, .int x2), (3, .int x3), (4, .int x4), (5, .int x5), (6, .int x6), (7, .int 1)], [], Φ (U μ 29 s1.toNatClampNeg s0))) : wpE (xT 151) ev Q (134, [(6, .int x6), (0, .ref m), (1, .int x1), (2, .int x2), (3, .int x3), (4, .int x4), (5, .int x5)], [.int s0, .int s1, .ref (m + 29)], Φ μ) := by
  obtain ⟨g, h⟩ := h
  refine pm_asti hΦ (c := 29) (n := 24) (cc3 c151_134) (by decide) rfl rfl rfl g ?_
  refine p_lc (ls' := [(0, .ref m), (1, .int x1), (2, .int x2), (3, .int x3), (4, .int x4), (5, .int x5), (6, .int x6)]) c151_135 rfl rfl ?_
  refine p_push (cct c151_135 rfl) ?_
  refine p_ist (ls' := [(7, .int 1), (0, .ref m), (1, .int x1), (2, .int x2), (3, .int x3), (4, .int x4), (5, .int x5), (6, .int x6)]) (cc3 c151_136) (by decide) rfl ?_
  exact p_lc (ls' := [(0, .ref m), (1, .int x1), (2, .int x2), (3, .int x3), (4, .int x4), (5, .int x5), (6, .int x6), (7, .int 1)]) c151_138 rfl rfl h
theorem B151_138 {ev : xV} {Q : Option Value → xM → Prop} {m : Nat} {Φ : (Nat → Nat → Int32) → xM} (hΦ : MLaw m Φ) {μ : Nat → Nat → Int32} {x1 x2 x3 x4 x5 x6 x7 : Int32} (h : vp_in x1 8 ∧ (((μ 15 x1.toNatClampNeg) ≤ x7) → (∃ μ', ev 154 [.ref m, .int x1, .int x2, .int x3] (Φ μ) none (Φ μ') ∧ wpE (xT 151) ev Q (188, [(0, .ref m), (1, .int x1), (2, .int x2), (3, .int x3), (4, .int x4), (5, .int x5), (6, .int x6), (7, .int x7)], [], Φ μ'))) ∧ (¬ ((μ 15 x1.toNatClampNeg) ≤ x7) → vp_in (x7 - 1) 24 ∧ (∃ r μ', ev 153 [.ref m, .int x1, .int (x7 - 1)] (Φ μ) (some (.int r)) (Φ μ') ∧ wpE (xT 151) ev Q (173, [(0, .ref m), (1, .int x1), (2, .int x2), (3, .int x3), (4, .int x4), (5, .int x5), (6, .int x6), (7, .int x7)], [.int r, .int (μ 29 (x7 - 1).toNatClampNeg), .int x7, .ref (m + 29)], Φ μ')))) : wpE (xT 151) ev Q (138, [(0, .ref m), (1, .int x1), (2, .int x2), (3, .int x3), (4, .int x4), (5, .int x5), (6, .int x6), (7, .int x7)], [], Φ μ) := by
  refine p_ild (cct c151_138 rfl) rfl ?_
  refine p_ald (cc3 c151_140) rfl ?_
  refine pm_getp hΦ (cc3 c151_141) (c := 15) rfl (by decide) ?_
  refine p_ild (cc3 c151_144) rfl ?_
  obtain ⟨g, h⟩ := h
  refine pm_aldi hΦ (c := 15) (n := 8) (cc3 c151_145) (by decide) rfl rfl rfl g rfl ?_
  refine p_icmp (cc3 c151_146) (fun c => ?_) (fun c => ?_)
  · have h := h.1 c
    refine p_ald (cc3 c151_181) rfl ?_
    refine p_ild (cc3 c151_182) rfl ?_
    refine p_ild (cc3 c151_183) rfl ?_
    refine p_ild (cc3 c151_184) rfl ?_
    obtain ⟨μ', he, h⟩ := h
    exact p_callV (cc3 c151_185) (Nat.le_of_ble_eq_true rfl) rfl rfl (Nat.le_of_ble_eq_true rfl) (ml_kd hΦ) he h
  · have h := h.2 c
    refine p_ald (cc3 c151_149) rfl ?_
    refine pm_getp hΦ (cc3 c151_150) (c := 29) rfl (by decide) ?_
    refine p_ild (cc3 c151_153) rfl ?_
    refine p_ald (cc3 c151_155) rfl ?_
    refine pm_getp hΦ (cc3 c151_156) (c := 29) rfl (by decide) ?_
    refine p_ild (cc3 c151_159) rfl ?_
    refine p_push (cc3 c151_161) ?_
    refine p_bin (cc3 c151_162) ?_
    obtain ⟨g, h⟩ := h
    refine pm_aldi hΦ (c := 29) (n := 24) (cc3 c151_163) (by decide) rfl rfl rfl g rfl ?_
    refine p_ald (cc3 c151_164) rfl ?_
    refine p_ild (cc3 c151_165) rfl ?_
    refine p_ild (cc3 c151_166) rfl ?_
    refine p_push (cc3 c151_168) ?_
    refine p_bin (cc3 c151_169) ?_
    obtain ⟨r, μ', he, h⟩ := h
    exact p_callV (cc3 c151_170) (Nat.le_of_ble_eq_true rfl) rfl rfl (Nat.le_of_ble_eq_true rfl) (ml_kd hΦ) he h
theorem B151_173 {ev : xV} {Q : Option Value → xM → Prop} {m : Nat} {Φ : (Nat → Nat → Int32) → xM} (hΦ : MLaw m Φ) {μ : Nat → Nat → Int32} {x1 x2 x3 x4 x5 x6 x7 s0 s1 s2 : Int32} (h : vp_in s2 24 ∧ wpE (xT 151) ev Q (138, [(0, .ref m), (1, .int x1), (2, .int x2), (3, .int x3), (4, .int x4), (5, .int x5), (6, .int x6), (7, .int (x7 + 1))], [], Φ (U μ 29 s2.toNatClampNeg (s1 + s0)))) : wpE (xT 151) ev Q (173, [(0, .ref m), (1, .int x1), (2, .int x2), (3, .int x3), (4, .int x4), (5, .int x5), (6, .int x6), (7, .int x7)], [.int s0, .int s1, .int s2, .ref (m + 29)], Φ μ) := by
  refine p_bin (cc3 c151_173) ?_
  obtain ⟨g, h⟩ := h
  refine pm_asti hΦ (c := 29) (n := 24) (cc3 c151_174) (by decide) rfl rfl rfl g ?_
  refine p_iinc (y := x7 + 1) (ls' := [(7, .int (x7 + 1)), (0, .ref m), (1, .int x1), (2, .int x2), (3, .int x3), (4, .int x4), (5, .int x5), (6, .int x6)]) (cc3 c151_175) (by decide) rfl rfl rfl ?_
  refine p_goto (cc3 c151_178) ?_
  exact p_lc (ls' := [(0, .ref m), (1, .int x1), (2, .int x2), (3, .int x3), (4, .int x4), (5, .int x5), (6, .int x6), (7, .int (x7 + 1))]) c151_138 rfl rfl h
theorem B151_188 {ev : xV} {Q : Option Value → xM → Prop} {m : Nat} {Φ : (Nat → Nat → Int32) → xM} (hΦ : MLaw m Φ) {μ : Nat → Nat → Int32} {x1 x2 x3 x4 x5 x6 x7 : Int32} (h : (((μ 0 41) ≤ (μ 30 0)) → wpE (xT 151) ev Q (40, [(0, .ref m), (1, .int x1), (2, .int x2), (3, .int x3), (4, .int x4), (5, .int (x5 + 1))], [], Φ μ)) ∧ (¬ ((μ 0 41) ≤ (μ 30 0)) → (∃ μ', ev 158 [.ref m, .int x1, .int x5, .int x6] (Φ μ) none (Φ μ') ∧ wpE (xT 151) ev Q (210, [(0, .ref m), (1, .int x1), (2, .int x2), (3, .int x3), (4, .int x4), (5, .int x5)], [], Φ μ')))) : wpE (xT 151) ev Q (188, [(0, .ref m), (1, .int x1), (2, .int x2), (3, .int x3), (4, .int x4), (5, .int x5), (6, .int x6), (7, .int x7)], [], Φ μ) := by
  refine p_ald (cc3 c151_188) rfl ?_
  refine pm_getp hΦ (cc3 c151_189) (c := 30) rfl (by decide) ?_
  refine p_push (cc3 c151_192) ?_
  refine pm_aldi hΦ (c := 30) (n := 4800) (k9 := 0) (cc3 c151_193) (by decide) rfl rfl (by decide) (by unfold vp_in; decide) rfl ?_
  refine p_ald (cc3 c151_194) rfl ?_
  refine pm_geti hΦ (v := μ 0 41) (cc3 c151_195) rfl ?_
  refine p_icmp (cc3 c151_198) (fun c => ?_) (fun c => ?_)
  · have h := h.1 c
    refine p_lc (ls' := [(0, .ref m), (1, .int x1), (2, .int x2), (3, .int x3), (4, .int x4), (5, .int x5)]) c151_210 rfl rfl ?_
    refine p_iinc (y := x5 + 1) (ls' := [(5, .int (x5 + 1)), (0, .ref m), (1, .int x1), (2, .int x2), (3, .int x3), (4, .int x4)]) (cct c151_210 rfl) (by decide) rfl rfl rfl ?_
    refine p_goto (cc3 c151_213) ?_
    exact p_lc (ls' := [(0, .ref m), (1, .int x1), (2, .int x2), (3, .int x3), (4, .int x4), (5, .int (x5 + 1))]) c151_40 rfl rfl h
  · have h := h.2 c
    refine p_ald (cc3 c151_201) rfl ?_
    refine p_ild (cc3 c151_202) rfl ?_
    refine p_ild (cc3 c151_203) rfl ?_
    refine p_ild (cc3 c151_205) rfl ?_
    obtain ⟨μ', he, h⟩ := h
    exact p_callV (cc3 c151_207) (Nat.le_of_ble_eq_true rfl) rfl rfl (Nat.le_of_ble_eq_true rfl) (ml_kd hΦ) he (p_lc (ls' := [(0, .ref m), (1, .int x1), (2, .int x2), (3, .int x3), (4, .int x4), (5, .int x5)]) c151_210 rfl rfl h)
theorem B151_210 {ev : xV} {Q : Option Value → xM → Prop} {m : Nat} {Φ : (Nat → Nat → Int32) → xM} (hΦ : MLaw m Φ) {μ : Nat → Nat → Int32} {x1 x2 x3 x4 x5 : Int32} (h : wpE (xT 151) ev Q (40, [(0, .ref m), (1, .int x1), (2, .int x2), (3, .int x3), (4, .int x4), (5, .int (x5 + 1))], [], Φ μ)) : wpE (xT 151) ev Q (210, [(0, .ref m), (1, .int x1), (2, .int x2), (3, .int x3), (4, .int x4), (5, .int x5)], [], Φ μ) := by
  refine p_iinc (y := x5 + 1) (ls' := [(5, .int (x5 + 1)), (0, .ref m), (1, .int x1), (2, .int x2), (3, .int x3), (4, .int x4)]) (cct c151_210 rfl) (by decide) rfl rfl rfl ?_
  refine p_goto (cc3 c151_213) ?_
  exact p_lc (ls' := [(0, .ref m), (1, .int x1), (2, .int x2), (3, .int x3), (4, .int x4), (5, .int (x5 + 1))]) c151_40 rfl rfl h
theorem B152_0 {ev : xV} {Q : Option Value → xM → Prop} {m : Nat} {Φ : (Nat → Nat → Int32) → xM} (hΦ : MLaw m Φ) {μ : Nat → Nat → Int32} {x1 x2 x3 : Int32} (h : (¬ (μ 0 32) = 0) ∧ ((0 ≤ (((x3 - x2) - x1) - ((x3 - x2) - x1) / (μ 0 32) * (μ 0 32))) → Q (some (.int (x1 + (((x3 - x2) - x1) - ((x3 - x2) - x1) / (μ 0 32) * (μ 0 32))))) (Φ μ)) ∧ (¬ (0 ≤ (((x3 - x2) - x1) - ((x3 - x2) - x1) / (μ 0 32) * (μ 0 32))) → Q (some (.int (x1 + ((((x3 - x2) - x1) - ((x3 - x2) - x1) / (μ 0 32) * (μ 0 32)) + (μ 0 32))))) (Φ μ))) : wpE (xT 152) ev Q (0, [(0, .ref m), (1, .int x1), (2, .int x2), (3, .int x3)], [], Φ μ) := by
  refine p_ild (cc3 c152_0) rfl ?_
  refine p_ild (cc3 c152_1) rfl ?_
  refine p_bin (cc3 c152_2) ?_
  refine p_ild (cc3 c152_3) rfl ?_
  refine p_bin (cc3 c152_4) ?_
  refine p_ald (cc3 c152_5) rfl ?_
  refine pm_geti hΦ (v := μ 0 32) (cc3 c152_6) rfl ?_
  obtain ⟨g, h⟩ := h
  refine p_div (cc3 c152_9) g ?_
  refine p_ist (ls' := [(4, .int (((x3 - x2) - x1) - ((x3 - x2) - x1) / (μ 0 32) * (μ 0 32))), (0, .ref m), (1, .int x1), (2, .int x2), (3, .int x3)]) (cc3 c152_10) (by decide) rfl ?_
  refine p_ild (cc3 c152_12) rfl ?_
  refine p_ild (cc3 c152_13) rfl ?_
  refine p_if (cc3 c152_15) (fun c => ?_) (fun c => ?_)
  · have h := h.1 c
    refine p_ild (cc3 c152_28) rfl ?_
    refine p_lc (ls' := []) c152_30 rfl rfl ?_
    refine p_bin (cct c152_30 rfl) ?_
    exact p_ri (cc3 c152_31) trivial h
  · have h := h.2 c
    refine p_ild (cc3 c152_18) rfl ?_
    refine p_ald (cc3 c152_20) rfl ?_
    refine pm_geti hΦ (v := μ 0 32) (cc3 c152_21) rfl ?_
    refine p_bin (cc3 c152_24) ?_
    refine p_goto (cc3 c152_25) ?_
    refine p_lc (ls' := []) c152_30 rfl rfl ?_
    refine p_bin (cct c152_30 rfl) ?_
    exact p_ri (cc3 c152_31) trivial h
theorem B153_0 {ev : xV} {Q : Option Value → xM → Prop} {m : Nat} {Φ : (Nat → Nat → Int32) → xM} (hΦ : MLaw m Φ) {μ : Nat → Nat → Int32} {x1 x2 : Int32} (h : vp_in x1 8 ∧ (((μ 11 x1.toNatClampNeg) = 5) → vp_in x1 8 ∧ ((x2 = ((μ 15 x1.toNatClampNeg) - 2)) → vp_in x1 8 ∧ Q (some (.int (μ 17 x1.toNatClampNeg))) (Φ μ)) ∧ (¬ (x2 = ((μ 15 x1.toNatClampNeg) - 2)) → Q (some (.int 0)) (Φ μ))) ∧ (¬ ((μ 11 x1.toNatClampNeg) = 5) → vp_in x1 8 ∧ (((μ 11 x1.toNatClampNeg) = 1) → Q (some (.int 0)) (Φ μ)) ∧ (¬ ((μ 11 x1.toNatClampNeg) = 1) → vp_in x1 8 ∧ (((μ 11 x1.toNatClampNeg) = 3) → Q (some (.int 0)) (Φ μ)) ∧ (¬ ((μ 11 x1.toNatClampNeg) = 3) → vp_in x1 8 ∧ (((μ 11 x1.toNatClampNeg) = 0) → vp_in x1 8 ∧ Q (some (.int (μ 17 x1.toNatClampNeg))) (Φ μ)) ∧ (¬ ((μ 11 x1.toNatClampNeg) = 0) → vp_in x1 8 ∧ Q (some (.int ((μ 17 x1.toNatClampNeg) + (μ 0 32)))) (Φ μ)))))) : wpE (xT 153) ev Q (0, [(0, .ref m), (1, .int x1), (2, .int x2)], [], Φ μ) := by
  refine p_ald (cc3 c153_0) rfl ?_
  refine pm_getp hΦ (cc3 c153_1) (c := 11) rfl (by decide) ?_
  refine p_ild (cc3 c153_4) rfl ?_
  obtain ⟨g, h⟩ := h
  refine pm_aldi hΦ (c := 11) (n := 8) (cc3 c153_5) (by decide) rfl rfl rfl g rfl ?_
  refine p_push (cc3 c153_6) ?_
  refine p_icmp (cc3 c153_7) (fun c => ?_) (fun c => ?_)
  · have h := h.1 c
    refine p_ild (cc3 c153_10) rfl ?_
    refine p_ald (cc3 c153_11) rfl ?_
    refine pm_getp hΦ (cc3 c153_12) (c := 15) rfl (by decide) ?_
    refine p_ild (cc3 c153_15) rfl ?_
    obtain ⟨g, h⟩ := h
    refine pm_aldi hΦ (c := 15) (n := 8) (cc3 c153_16) (by decide) rfl rfl rfl g rfl ?_
    refine p_push (cc3 c153_17) ?_
    refine p_bin (cc3 c153_18) ?_
    refine p_icmp (cc3 c153_19) (fun c => ?_) (fun c => ?_)
    · have h := h.1 c
      refine p_ald (cc3 c153_22) rfl ?_
      refine pm_getp hΦ (cc3 c153_23) (c := 17) rfl (by decide) ?_
      refine p_ild (cc3 c153_26) rfl ?_
      obtain ⟨g, h⟩ := h
      refine pm_aldi hΦ (c := 17) (n := 8) (cc3 c153_27) (by decide) rfl rfl rfl g rfl ?_
      refine p_goto (cc3 c153_28) ?_
      refine p_lc (ls' := []) c153_32 rfl rfl ?_
      exact p_ri (cct c153_32 rfl) trivial h
    · have h := h.2 c
      refine p_push (cc3 c153_31) ?_
      refine p_lc (ls' := []) c153_32 rfl rfl ?_
      exact p_ri (cct c153_32 rfl) trivial h
  · have h := h.2 c
    refine p_ald (cc3 c153_33) rfl ?_
    refine pm_getp hΦ (cc3 c153_34) (c := 11) rfl (by decide) ?_
    refine p_ild (cc3 c153_37) rfl ?_
    obtain ⟨g, h⟩ := h
    refine pm_aldi hΦ (c := 11) (n := 8) (cc3 c153_38) (by decide) rfl rfl rfl g rfl ?_
    refine p_push (cc3 c153_39) ?_
    refine p_icmp (cc3 c153_40) (fun c => ?_) (fun c => ?_)
    · have h := h.1 c
      refine p_lc (ls' := []) c153_53 rfl rfl ?_
      refine p_push (cct c153_53 rfl) ?_
      refine p_goto (cc3 c153_54) ?_
      exact p_ri (cct c153_86 rfl) trivial h
    · have h := h.2 c
      refine p_ald (cc3 c153_43) rfl ?_
      refine pm_getp hΦ (cc3 c153_44) (c := 11) rfl (by decide) ?_
      refine p_ild (cc3 c153_47) rfl ?_
      obtain ⟨g, h⟩ := h
      refine pm_aldi hΦ (c := 11) (n := 8) (cc3 c153_48) (by decide) rfl rfl rfl g rfl ?_
      refine p_push (cc3 c153_49) ?_
      refine p_icmp (cc3 c153_50) (fun c => ?_) (fun c => ?_)
      · have h := h.1 c
        refine p_lc (ls' := []) c153_53 rfl rfl ?_
        refine p_push (cct c153_53 rfl) ?_
        refine p_goto (cc3 c153_54) ?_
        exact p_ri (cct c153_86 rfl) trivial h
      · have h := h.2 c
        refine p_ald (cc3 c153_57) rfl ?_
        refine pm_getp hΦ (cc3 c153_58) (c := 11) rfl (by decide) ?_
        refine p_ild (cc3 c153_61) rfl ?_
        obtain ⟨g, h⟩ := h
        refine pm_aldi hΦ (c := 11) (n := 8) (cc3 c153_62) (by decide) rfl rfl rfl g rfl ?_
        refine p_if (cc3 c153_63) (fun c => ?_) (fun c => ?_)
        · have h := h.1 c
          refine p_ald (cc3 c153_66) rfl ?_
          refine pm_getp hΦ (cc3 c153_67) (c := 17) rfl (by decide) ?_
          refine p_ild (cc3 c153_70) rfl ?_
          obtain ⟨g, h⟩ := h
          refine pm_aldi hΦ (c := 17) (n := 8) (cc3 c153_71) (by decide) rfl rfl rfl g rfl ?_
          refine p_goto (cc3 c153_72) ?_
          refine p_lc (ls' := []) c153_86 rfl rfl ?_
          exact p_ri (cct c153_86 rfl) trivial h
        · have h := h.2 c
          refine p_ald (cc3 c153_75) rfl ?_
          refine pm_getp hΦ (cc3 c153_76) (c := 17) rfl (by decide) ?_
          refine p_ild (cc3 c153_79) rfl ?_
          obtain ⟨g, h⟩ := h
          refine pm_aldi hΦ (c := 17) (n := 8) (cc3 c153_80) (by decide) rfl rfl rfl g rfl ?_
          refine p_ald (cc3 c153_81) rfl ?_
          refine pm_geti hΦ (v := μ 0 32) (cc3 c153_82) rfl ?_
          refine p_bin (cc3 c153_85) ?_
          refine p_lc (ls' := []) c153_86 rfl rfl ?_
          exact p_ri (cct c153_86 rfl) trivial h
theorem B154_0 {ev : xV} {Q : Option Value → xM → Prop} {m : Nat} {Φ : (Nat → Nat → Int32) → xM} (hΦ : MLaw m Φ) {μ : Nat → Nat → Int32} {x1 x2 x3 : Int32} (h : vp_in x1 8 ∧ wpE (xT 154) ev Q (14, [(0, .ref m), (1, .int x1), (2, .int x2), (3, .int x3), (4, .int (μ 15 x1.toNatClampNeg)), (5, .int ((μ 15 x1.toNatClampNeg) - 1))], [], Φ μ)) : wpE (xT 154) ev Q (0, [(0, .ref m), (1, .int x1), (2, .int x2), (3, .int x3)], [], Φ μ) := by
  refine p_ald (cc3 c154_0) rfl ?_
  refine pm_getp hΦ (cc3 c154_1) (c := 15) rfl (by decide) ?_
  refine p_ild (cc3 c154_4) rfl ?_
  obtain ⟨g, h⟩ := h
  refine pm_aldi hΦ (c := 15) (n := 8) (cc3 c154_5) (by decide) rfl rfl rfl g rfl ?_
  refine p_ist (ls' := [(4, .int (μ 15 x1.toNatClampNeg)), (0, .ref m), (1, .int x1), (2, .int x2), (3, .int x3)]) (cc3 c154_6) (by decide) rfl ?_
  refine p_ild (cc3 c154_8) rfl ?_
  refine p_push (cc3 c154_10) ?_
  refine p_bin (cc3 c154_11) ?_
  refine p_ist (ls' := [(5, .int ((μ 15 x1.toNatClampNeg) - 1)), (4, .int (μ 15 x1.toNatClampNeg)), (0, .ref m), (1, .int x1), (2, .int x2), (3, .int x3)]) (cc3 c154_12) (by decide) rfl ?_
  exact p_lc (ls' := [(0, .ref m), (1, .int x1), (2, .int x2), (3, .int x3), (4, .int (μ 15 x1.toNatClampNeg)), (5, .int ((μ 15 x1.toNatClampNeg) - 1))]) c154_14 rfl rfl h
theorem B154_14 {ev : xV} {Q : Option Value → xM → Prop} {m : Nat} {Φ : (Nat → Nat → Int32) → xM} (hΦ : MLaw m Φ) {μ : Nat → Nat → Int32} {x1 x2 x3 x4 x5 : Int32} (h : ((x5 < 0) → Q none (Φ μ)) ∧ (¬ (x5 < 0) → wpE (xT 154) ev Q (22, [(0, .ref m), (1, .int x1), (2, .int x2), (3, .int x3), (4, .int x4), (5, .int x5), (6, .int 0)], [], Φ μ))) : wpE (xT 154) ev Q (14, [(0, .ref m), (1, .int x1), (2, .int x2), (3, .int x3), (4, .int x4), (5, .int x5)], [], Φ μ) := by
  refine p_ild (cct c154_14 rfl) rfl ?_
  refine p_if (cc3 c154_16) (fun c => ?_) (fun c => ?_)
  · have h := h.1 c
    exact p_rv (cc3 c154_246) h
  · have h := h.2 c
    refine p_push (cc3 c154_19) ?_
    refine p_ist (ls' := [(6, .int 0), (0, .ref m), (1, .int x1), (2, .int x2), (3, .int x3), (4, .int x4), (5, .int x5)]) (cc3 c154_20) (by decide) rfl ?_
    exact p_lc (ls' := [(0, .ref m), (1, .int x1), (2, .int x2), (3, .int x3), (4, .int x4), (5, .int x5), (6, .int 0)]) c154_22 rfl rfl h
theorem B154_22 {ev : xV} {Q : Option Value → xM → Prop} {m : Nat} {Φ : (Nat → Nat → Int32) → xM} (hΦ : MLaw m Φ) {μ : Nat → Nat → Int32} {x1 x2 x3 x4 x5 x6 : Int32} (h : ((200 ≤ x6) → wpE (xT 154) ev Q (14, [(0, .ref m), (1, .int x1), (2, .int x2), (3, .int x3), (4, .int x4), (5, .int (x5 + (-1)))], [], Φ μ)) ∧ (¬ (200 ≤ x6) → vp_in x5 24 ∧ vp_in ((200 * x5) + x6) 4800 ∧ vp_in x1 8 ∧ vp_in x2 5 ∧ ((((U μ 30 (((200 * x5) + x6).toNatClampNeg) 1000000) 8 x2.toNatClampNeg) < (((μ 29 x5.toNatClampNeg) + (x6 * (μ 0 32))) + ((U μ 30 (((200 * x5) + x6).toNatClampNeg) 1000000) 17 x1.toNatClampNeg))) → wpE (xT 154) ev Q (22, [(0, .ref m), (1, .int x1), (2, .int x2), (3, .int x3), (4, .int x4), (5, .int x5), (6, .int (x6 + 1))], [], Φ (U μ 30 (((200 * x5) + x6).toNatClampNeg) 1000000))) ∧ (¬ (((U μ 30 (((200 * x5) + x6).toNatClampNeg) 1000000) 8 x2.toNatClampNeg) < (((μ 29 x5.toNatClampNeg) + (x6 * (μ 0 32))) + ((U μ 30 (((200 * x5) + x6).toNatClampNeg) 1000000) 17 x1.toNatClampNeg))) → vp_in x1 8 ∧ (∃ r μ', ev 144 [.ref m, .int x2, .int ((μ 29 x5.toNatClampNeg) + (x6 * (μ 0 32))), .int ((U μ 30 (((200 * x5) + x6).toNatClampNeg) 1000000) 17 x1.toNatClampNeg)] (Φ (U μ 30 (((200 * x5) + x6).toNatClampNeg) 1000000)) (some (.int r)) (Φ μ') ∧ wpE (xT 154) ev Q (94, [(7, .int ((μ 29 x5.toNatClampNeg) + (x6 * (μ 0 32)))), (0, .ref m), (1, .int x1), (2, .int x2), (3, .int x3), (4, .int x4), (5, .int x5), (6, .int x6)], [.int r], Φ μ'))))) : wpE (xT 154) ev Q (22, [(0, .ref m), (1, .int x1), (2, .int x2), (3, .int x3), (4, .int x4), (5, .int x5), (6, .int x6)], [], Φ μ) := by
  refine p_ild (cct c154_22 rfl) rfl ?_
  refine p_push (cc3 c154_24) ?_
  refine p_icmp (cc3 c154_27) (fun c => ?_) (fun c => ?_)
  · have h := h.1 c
    refine p_iinc (y := x5 + (-1)) (ls' := [(5, .int (x5 + (-1))), (0, .ref m), (1, .int x1), (2, .int x2), (3, .int x3), (4, .int x4), (6, .int x6)]) (cc3 c154_240) (by decide) rfl rfl rfl ?_
    refine p_goto (cc3 c154_243) ?_
    exact p_lc (ls' := [(0, .ref m), (1, .int x1), (2, .int x2), (3, .int x3), (4, .int x4), (5, .int (x5 + (-1)))]) c154_14 rfl rfl h
  · have h := h.2 c
    refine p_ald (cc3 c154_30) rfl ?_
    refine pm_getp hΦ (cc3 c154_31) (c := 29) rfl (by decide) ?_
    refine p_ild (cc3 c154_34) rfl ?_
    obtain ⟨g, h⟩ := h
    refine pm_aldi hΦ (c := 29) (n := 24) (cc3 c154_36) (by decide) rfl rfl rfl g rfl ?_
    refine p_ild (cc3 c154_37) rfl ?_
    refine p_ald (cc3 c154_39) rfl ?_
    refine pm_geti hΦ (v := μ 0 32) (cc3 c154_40) rfl ?_
    refine p_bin (cc3 c154_43) ?_
    refine p_bin (cc3 c154_44) ?_
    refine p_ist (ls' := [(7, .int ((μ 29 x5.toNatClampNeg) + (x6 * (μ 0 32)))), (0, .ref m), (1, .int x1), (2, .int x2), (3, .int x3), (4, .int x4), (5, .int x5), (6, .int x6)]) (cc3 c154_45) (by decide) rfl ?_
    refine p_ald (cc3 c154_47) rfl ?_
    refine pm_getp hΦ (cc3 c154_48) (c := 30) rfl (by decide) ?_
    refine p_push (cc3 c154_51) ?_
    refine p_ild (cc3 c154_54) rfl ?_
    refine p_bin (cc3 c154_56) ?_
    refine p_ild (cc3 c154_57) rfl ?_
    refine p_bin (cc3 c154_59) ?_
    refine p_push (cc3 c154_60) ?_
    obtain ⟨g, h⟩ := h
    refine pm_asti hΦ (c := 30) (n := 4800) (cc3 c154_62) (by decide) rfl rfl rfl g ?_
    refine p_ild (cc3 c154_63) rfl ?_
    refine p_ald (cc3 c154_65) rfl ?_
    refine pm_getp hΦ (cc3 c154_66) (c := 17) rfl (by decide) ?_
    refine p_ild (cc3 c154_69) rfl ?_
    obtain ⟨g, h⟩ := h
    refine pm_aldi hΦ (c := 17) (n := 8) (cc3 c154_70) (by decide) rfl rfl rfl g rfl ?_
    refine p_bin (cc3 c154_71) ?_
    refine p_ald (cc3 c154_72) rfl ?_
    refine pm_getp hΦ (cc3 c154_73) (c := 8) rfl (by decide) ?_
    refine p_ild (cc3 c154_76) rfl ?_
    obtain ⟨g, h⟩ := h
    refine pm_aldi hΦ (c := 8) (n := 5) (cc3 c154_77) (by decide) rfl rfl rfl g rfl ?_
    refine p_icmp (cc3 c154_78) (fun c => ?_) (fun c => ?_)
    · have h := h.1 c
      refine p_lc (ls' := [(0, .ref m), (1, .int x1), (2, .int x2), (3, .int x3), (4, .int x4), (5, .int x5), (6, .int x6)]) c154_234 rfl rfl ?_
      refine p_iinc (y := x6 + 1) (ls' := [(6, .int (x6 + 1)), (0, .ref m), (1, .int x1), (2, .int x2), (3, .int x3), (4, .int x4), (5, .int x5)]) (cct c154_234 rfl) (by decide) rfl rfl rfl ?_
      refine p_goto (cc3 c154_237) ?_
      exact p_lc (ls' := [(0, .ref m), (1, .int x1), (2, .int x2), (3, .int x3), (4, .int x4), (5, .int x5), (6, .int (x6 + 1))]) c154_22 rfl rfl h
    · have h := h.2 c
      refine p_ald (cc3 c154_81) rfl ?_
      refine p_ild (cc3 c154_82) rfl ?_
      refine p_ild (cc3 c154_83) rfl ?_
      refine p_ald (cc3 c154_85) rfl ?_
      refine pm_getp hΦ (cc3 c154_86) (c := 17) rfl (by decide) ?_
      refine p_ild (cc3 c154_89) rfl ?_
      obtain ⟨g, h⟩ := h
      refine pm_aldi hΦ (c := 17) (n := 8) (cc3 c154_90) (by decide) rfl rfl rfl g rfl ?_
      obtain ⟨r, μ', he, h⟩ := h
      exact p_callV (cc3 c154_91) (Nat.le_of_ble_eq_true rfl) rfl rfl (Nat.le_of_ble_eq_true rfl) (ml_kd hΦ) he h
theorem B154_94 {ev : xV} {Q : Option Value → xM → Prop} {m : Nat} {Φ : (Nat → Nat → Int32) → xM} (hΦ : MLaw m Φ) {μ : Nat → Nat → Int32} {x7 x1 x2 x3 x4 x5 x6 s0 : Int32} (h : ((s0 = 0) → ((x5 = (x4 - 1)) → (∃ r μ', ev 155 [.ref m, .int x1, .int x2, .int x3, .int x7] (Φ μ) (some (.int r)) (Φ μ') ∧ wpE (xT 154) ev Q (131, [(7, .int x7), (0, .ref m), (1, .int x1), (2, .int x2), (3, .int x3), (4, .int x4), (5, .int x5), (6, .int x6)], [.int r, .int ((200 * x5) + x6), .ref (m + 30)], Φ μ'))) ∧ (¬ (x5 = (x4 - 1)) → wpE (xT 154) ev Q (138, [(0, .ref m), (1, .int x1), (2, .int x2), (3, .int x3), (4, .int x4), (5, .int x5), (6, .int x6), (8, .int 1)], [], Φ μ))) ∧ (¬ (s0 = 0) → wpE (xT 154) ev Q (22, [(0, .ref m), (1, .int x1), (2, .int x2), (3, .int x3), (4, .int x4), (5, .int x5), (6, .int (x6 + 1))], [], Φ μ))) : wpE (xT 154) ev Q (94, [(7, .int x7), (0, .ref m), (1, .int x1), (2, .int x2), (3, .int x3), (4, .int x4), (5, .int x5), (6, .int x6)], [.int s0], Φ μ) := by
  refine p_if (cc3 c154_94) (fun c => ?_) (fun c => ?_)
  · have h := h.1 c
    refine p_ild (cc3 c154_100) rfl ?_
    refine p_ild (cc3 c154_102) rfl ?_
    refine p_push (cc3 c154_104) ?_
    refine p_bin (cc3 c154_105) ?_
    refine p_icmp (cc3 c154_106) (fun c => ?_) (fun c => ?_)
    · have h := h.1 c
      refine p_ald (cc3 c154_109) rfl ?_
      refine pm_getp hΦ (cc3 c154_110) (c := 30) rfl (by decide) ?_
      refine p_push (cc3 c154_113) ?_
      refine p_ild (cc3 c154_116) rfl ?_
      refine p_bin (cc3 c154_118) ?_
      refine p_ild (cc3 c154_119) rfl ?_
      refine p_bin (cc3 c154_121) ?_
      refine p_ald (cc3 c154_122) rfl ?_
      refine p_ild (cc3 c154_123) rfl ?_
      refine p_ild (cc3 c154_124) rfl ?_
      refine p_ild (cc3 c154_125) rfl ?_
      refine p_ild (cc3 c154_126) rfl ?_
      obtain ⟨r, μ', he, h⟩ := h
      exact p_callV (cc3 c154_128) (Nat.le_of_ble_eq_true rfl) rfl rfl (Nat.le_of_ble_eq_true rfl) (ml_kd hΦ) he h
    · have h := h.2 c
      refine p_push (cc3 c154_135) ?_
      refine p_ist (ls' := [(8, .int 1), (7, .int x7), (0, .ref m), (1, .int x1), (2, .int x2), (3, .int x3), (4, .int x4), (5, .int x5), (6, .int x6)]) (cc3 c154_136) (by decide) rfl ?_
      exact p_lc (ls' := [(0, .ref m), (1, .int x1), (2, .int x2), (3, .int x3), (4, .int x4), (5, .int x5), (6, .int x6), (8, .int 1)]) c154_138 rfl rfl h
  · have h := h.2 c
    refine p_goto (cc3 c154_97) ?_
    refine p_lc (ls' := [(0, .ref m), (1, .int x1), (2, .int x2), (3, .int x3), (4, .int x4), (5, .int x5), (6, .int x6)]) c154_234 rfl rfl ?_
    refine p_iinc (y := x6 + 1) (ls' := [(6, .int (x6 + 1)), (0, .ref m), (1, .int x1), (2, .int x2), (3, .int x3), (4, .int x4), (5, .int x5)]) (cct c154_234 rfl) (by decide) rfl rfl rfl ?_
    refine p_goto (cc3 c154_237) ?_
    exact p_lc (ls' := [(0, .ref m), (1, .int x1), (2, .int x2), (3, .int x3), (4, .int x4), (5, .int x5), (6, .int (x6 + 1))]) c154_22 rfl rfl h
theorem B154_131 {ev : xV} {Q : Option Value → xM → Prop} {m : Nat} {Φ : (Nat → Nat → Int32) → xM} (hΦ : MLaw m Φ) {μ : Nat → Nat → Int32} {x7 x1 x2 x3 x4 x5 x6 s0 s1 : Int32} (h : vp_in s1 4800 ∧ wpE (xT 154) ev Q (22, [(0, .ref m), (1, .int x1), (2, .int x2), (3, .int x3), (4, .int x4), (5, .int x5), (6, .int (x6 + 1))], [], Φ (U μ 30 s1.toNatClampNeg s0))) : wpE (xT 154) ev Q (131, [(7, .int x7), (0, .ref m), (1, .int x1), (2, .int x2), (3, .int x3), (4, .int x4), (5, .int x5), (6, .int x6)], [.int s0, .int s1, .ref (m + 30)], Φ μ) := by
  obtain ⟨g, h⟩ := h
  refine pm_asti hΦ (c := 30) (n := 4800) (cc3 c154_131) (by decide) rfl rfl rfl g ?_
  refine p_goto (cc3 c154_132) ?_
  refine p_lc (ls' := [(0, .ref m), (1, .int x1), (2, .int x2), (3, .int x3), (4, .int x4), (5, .int x5), (6, .int x6)]) c154_234 rfl rfl ?_
  refine p_iinc (y := x6 + 1) (ls' := [(6, .int (x6 + 1)), (0, .ref m), (1, .int x1), (2, .int x2), (3, .int x3), (4, .int x4), (5, .int x5)]) (cct c154_234 rfl) (by decide) rfl rfl rfl ?_
  refine p_goto (cc3 c154_237) ?_
  exact p_lc (ls' := [(0, .ref m), (1, .int x1), (2, .int x2), (3, .int x3), (4, .int x4), (5, .int x5), (6, .int (x6 + 1))]) c154_22 rfl rfl h
theorem B154_138 {ev : xV} {Q : Option Value → xM → Prop} {m : Nat} {Φ : (Nat → Nat → Int32) → xM} (hΦ : MLaw m Φ) {μ : Nat → Nat → Int32} {x1 x2 x3 x4 x5 x6 x8 : Int32} (h : ((4 < x8) → wpE (xT 154) ev Q (22, [(0, .ref m), (1, .int x1), (2, .int x2), (3, .int x3), (4, .int x4), (5, .int x5), (6, .int (x6 + 1))], [], Φ μ)) ∧ (¬ (4 < x8) → (∃ r μ', ev 156 [.ref m, .int x1, .int x5, .int x6, .int x8] (Φ μ) (some (.int r)) (Φ μ') ∧ wpE (xT 154) ev Q (155, [(0, .ref m), (1, .int x1), (2, .int x2), (3, .int x3), (4, .int x4), (5, .int x5), (6, .int x6), (8, .int x8)], [.int r], Φ μ')))) : wpE (xT 154) ev Q (138, [(0, .ref m), (1, .int x1), (2, .int x2), (3, .int x3), (4, .int x4), (5, .int x5), (6, .int x6), (8, .int x8)], [], Φ μ) := by
  refine p_ild (cct c154_138 rfl) rfl ?_
  refine p_push (cc3 c154_140) ?_
  refine p_icmp (cc3 c154_141) (fun c => ?_) (fun c => ?_)
  · have h := h.1 c
    refine p_lc (ls' := [(0, .ref m), (1, .int x1), (2, .int x2), (3, .int x3), (4, .int x4), (5, .int x5), (6, .int x6)]) c154_234 rfl rfl ?_
    refine p_iinc (y := x6 + 1) (ls' := [(6, .int (x6 + 1)), (0, .ref m), (1, .int x1), (2, .int x2), (3, .int x3), (4, .int x4), (5, .int x5)]) (cct c154_234 rfl) (by decide) rfl rfl rfl ?_
    refine p_goto (cc3 c154_237) ?_
    exact p_lc (ls' := [(0, .ref m), (1, .int x1), (2, .int x2), (3, .int x3), (4, .int x4), (5, .int x5), (6, .int (x6 + 1))]) c154_22 rfl rfl h
  · have h := h.2 c
    refine p_ald (cc3 c154_144) rfl ?_
    refine p_ild (cc3 c154_145) rfl ?_
    refine p_ild (cc3 c154_146) rfl ?_
    refine p_ild (cc3 c154_148) rfl ?_
    refine p_ild (cc3 c154_150) rfl ?_
    obtain ⟨r, μ', he, h⟩ := h
    exact p_callV (cc3 c154_152) (Nat.le_of_ble_eq_true rfl) rfl rfl (Nat.le_of_ble_eq_true rfl) (ml_kd hΦ) he h
theorem B154_155 {ev : xV} {Q : Option Value → xM → Prop} {m : Nat} {Φ : (Nat → Nat → Int32) → xM} (hΦ : MLaw m Φ) {μ : Nat → Nat → Int32} {x1 x2 x3 x4 x5 x6 x8 s0 : Int32} (h : ((200 ≤ s0) → wpE (xT 154) ev Q (138, [(0, .ref m), (1, .int x1), (2, .int x2), (3, .int x3), (4, .int x4), (5, .int x5), (6, .int x6), (8, .int (x8 + 1))], [], Φ μ)) ∧ (¬ (200 ≤ s0) → vp_in ((200 * (x5 + 1)) + s0) 4800 ∧ vp_in ((200 * x5) + x6) 4800 ∧ (((μ 30 ((200 * x5) + x6).toNatClampNeg) ≤ (μ 30 ((200 * (x5 + 1)) + s0).toNatClampNeg)) → wpE (xT 154) ev Q (138, [(0, .ref m), (1, .int x1), (2, .int x2), (3, .int x3), (4, .int x4), (5, .int x5), (6, .int x6), (8, .int (x8 + 1))], [], Φ μ)) ∧ (¬ ((μ 30 ((200 * x5) + x6).toNatClampNeg) ≤ (μ 30 ((200 * (x5 + 1)) + s0).toNatClampNeg)) → vp_in ((200 * (x5 + 1)) + s0) 4800 ∧ vp_in ((200 * x5) + x6) 4800 ∧ wpE (xT 154) ev Q (138, [(0, .ref m), (1, .int x1), (2, .int x2), (3, .int x3), (4, .int x4), (5, .int x5), (6, .int x6), (8, .int (x8 + 1))], [], Φ (U μ 30 (((200 * x5) + x6).toNatClampNeg) (μ 30 ((200 * (x5 + 1)) + s0).toNatClampNeg)))))) : wpE (xT 154) ev Q (155, [(0, .ref m), (1, .int x1), (2, .int x2), (3, .int x3), (4, .int x4), (5, .int x5), (6, .int x6), (8, .int x8)], [.int s0], Φ μ) := by
  refine p_ist (ls' := [(9, .int s0), (0, .ref m), (1, .int x1), (2, .int x2), (3, .int x3), (4, .int x4), (5, .int x5), (6, .int x6), (8, .int x8)]) (cc3 c154_155) (by decide) rfl ?_
  refine p_ild (cc3 c154_157) rfl ?_
  refine p_push (cc3 c154_159) ?_
  refine p_icmp (cc3 c154_162) (fun c => ?_) (fun c => ?_)
  · have h := h.1 c
    refine p_lc (ls' := [(0, .ref m), (1, .int x1), (2, .int x2), (3, .int x3), (4, .int x4), (5, .int x5), (6, .int x6), (8, .int x8)]) c154_228 rfl rfl ?_
    refine p_iinc (y := x8 + 1) (ls' := [(8, .int (x8 + 1)), (0, .ref m), (1, .int x1), (2, .int x2), (3, .int x3), (4, .int x4), (5, .int x5), (6, .int x6)]) (cct c154_228 rfl) (by decide) rfl rfl rfl ?_
    refine p_goto (cc3 c154_231) ?_
    exact p_lc (ls' := [(0, .ref m), (1, .int x1), (2, .int x2), (3, .int x3), (4, .int x4), (5, .int x5), (6, .int x6), (8, .int (x8 + 1))]) c154_138 rfl rfl h
  · have h := h.2 c
    refine p_ald (cc3 c154_165) rfl ?_
    refine pm_getp hΦ (cc3 c154_166) (c := 30) rfl (by decide) ?_
    refine p_push (cc3 c154_169) ?_
    refine p_ild (cc3 c154_172) rfl ?_
    refine p_push (cc3 c154_174) ?_
    refine p_bin (cc3 c154_175) ?_
    refine p_bin (cc3 c154_176) ?_
    refine p_ild (cc3 c154_177) rfl ?_
    refine p_bin (cc3 c154_179) ?_
    obtain ⟨g, h⟩ := h
    refine pm_aldi hΦ (c := 30) (n := 4800) (cc3 c154_180) (by decide) rfl rfl rfl g rfl ?_
    refine p_ald (cc3 c154_181) rfl ?_
    refine pm_getp hΦ (cc3 c154_182) (c := 30) rfl (by decide) ?_
    refine p_push (cc3 c154_185) ?_
    refine p_ild (cc3 c154_188) rfl ?_
    refine p_bin (cc3 c154_190) ?_
    refine p_ild (cc3 c154_191) rfl ?_
    refine p_bin (cc3 c154_193) ?_
    obtain ⟨g, h⟩ := h
    refine pm_aldi hΦ (c := 30) (n := 4800) (cc3 c154_194) (by decide) rfl rfl rfl g rfl ?_
    refine p_icmp (cc3 c154_195) (fun c => ?_) (fun c => ?_)
    · have h := h.1 c
      refine p_lc (ls' := [(0, .ref m), (1, .int x1), (2, .int x2), (3, .int x3), (4, .int x4), (5, .int x5), (6, .int x6), (8, .int x8)]) c154_228 rfl rfl ?_
      refine p_iinc (y := x8 + 1) (ls' := [(8, .int (x8 + 1)), (0, .ref m), (1, .int x1), (2, .int x2), (3, .int x3), (4, .int x4), (5, .int x5), (6, .int x6)]) (cct c154_228 rfl) (by decide) rfl rfl rfl ?_
      refine p_goto (cc3 c154_231) ?_
      exact p_lc (ls' := [(0, .ref m), (1, .int x1), (2, .int x2), (3, .int x3), (4, .int x4), (5, .int x5), (6, .int x6), (8, .int (x8 + 1))]) c154_138 rfl rfl h
    · have h := h.2 c
      refine p_ald (cc3 c154_198) rfl ?_
      refine pm_getp hΦ (cc3 c154_199) (c := 30) rfl (by decide) ?_
      refine p_push (cc3 c154_202) ?_
      refine p_ild (cc3 c154_205) rfl ?_
      refine p_bin (cc3 c154_207) ?_
      refine p_ild (cc3 c154_208) rfl ?_
      refine p_bin (cc3 c154_210) ?_
      refine p_ald (cc3 c154_211) rfl ?_
      refine pm_getp hΦ (cc3 c154_212) (c := 30) rfl (by decide) ?_
      refine p_push (cc3 c154_215) ?_
      refine p_ild (cc3 c154_218) rfl ?_
      refine p_push (cc3 c154_220) ?_
      refine p_bin (cc3 c154_221) ?_
      refine p_bin (cc3 c154_222) ?_
      refine p_ild (cc3 c154_223) rfl ?_
      refine p_bin (cc3 c154_225) ?_
      obtain ⟨g, h⟩ := h
      refine pm_aldi hΦ (c := 30) (n := 4800) (cc3 c154_226) (by decide) rfl rfl rfl g rfl ?_
      obtain ⟨g, h⟩ := h
      refine pm_asti hΦ (c := 30) (n := 4800) (cc3 c154_227) (by decide) rfl rfl rfl g ?_
      refine p_lc (ls' := [(0, .ref m), (1, .int x1), (2, .int x2), (3, .int x3), (4, .int x4), (5, .int x5), (6, .int x6), (8, .int x8)]) c154_228 rfl rfl ?_
      refine p_iinc (y := x8 + 1) (ls' := [(8, .int (x8 + 1)), (0, .ref m), (1, .int x1), (2, .int x2), (3, .int x3), (4, .int x4), (5, .int x5), (6, .int x6)]) (cct c154_228 rfl) (by decide) rfl rfl rfl ?_
      refine p_goto (cc3 c154_231) ?_
      exact p_lc (ls' := [(0, .ref m), (1, .int x1), (2, .int x2), (3, .int x3), (4, .int x4), (5, .int x5), (6, .int x6), (8, .int (x8 + 1))]) c154_138 rfl rfl h
theorem B155_0 {ev : xV} {Q : Option Value → xM → Prop} {m : Nat} {Φ : (Nat → Nat → Int32) → xM} (hΦ : MLaw m Φ) {μ : Nat → Nat → Int32} {x1 x2 x3 x4 : Int32} (h : vp_in x1 8 ∧ vp_in x1 8 ∧ (∃ r μ', ev 137 [.ref m, .int x3, .int 0] (Φ μ) (some (.int r)) (Φ μ') ∧ wpE (xT 155) ev Q (24, [(0, .ref m), (1, .int x1), (2, .int x2), (3, .int x3), (4, .int x4)], [.int r, .int ((μ 18 x1.toNatClampNeg) / 2), .int (x4 + (μ 17 x1.toNatClampNeg)), .ref m], Φ μ'))) : wpE (xT 155) ev Q (0, [(0, .ref m), (1, .int x1), (2, .int x2), (3, .int x3), (4, .int x4)], [], Φ μ) := by
  refine p_ald (cc3 c155_0) rfl ?_
  refine p_ild (cc3 c155_1) rfl ?_
  refine p_ald (cc3 c155_3) rfl ?_
  refine pm_getp hΦ (cc3 c155_4) (c := 17) rfl (by decide) ?_
  refine p_ild (cc3 c155_7) rfl ?_
  obtain ⟨g, h⟩ := h
  refine pm_aldi hΦ (c := 17) (n := 8) (cc3 c155_8) (by decide) rfl rfl rfl g rfl ?_
  refine p_bin (cc3 c155_9) ?_
  refine p_ald (cc3 c155_10) rfl ?_
  refine pm_getp hΦ (cc3 c155_11) (c := 18) rfl (by decide) ?_
  refine p_ild (cc3 c155_14) rfl ?_
  obtain ⟨g, h⟩ := h
  refine pm_aldi hΦ (c := 18) (n := 8) (cc3 c155_15) (by decide) rfl rfl rfl g rfl ?_
  refine p_push (cc3 c155_16) ?_
  refine p_div (cc3 c155_17) (by decide) ?_
  refine p_ald (cc3 c155_18) rfl ?_
  refine p_ild (cc3 c155_19) rfl ?_
  refine p_push (cc3 c155_20) ?_
  obtain ⟨r, μ', he, h⟩ := h
  exact p_callV (cc3 c155_21) (Nat.le_of_ble_eq_true rfl) rfl rfl (Nat.le_of_ble_eq_true rfl) (ml_kd hΦ) he h
theorem B155_24 {ev : xV} {Q : Option Value → xM → Prop} {m : Nat} {Φ : (Nat → Nat → Int32) → xM} (hΦ : MLaw m Φ) {μ : Nat → Nat → Int32} {x1 x2 x3 x4 s0 s1 s2 : Int32} (h : (∃ r μ', ev 152 [.ref m, .int s2, .int s1, .int s0] (Φ μ) (some (.int r)) (Φ μ') ∧ wpE (xT 155) ev Q (27, [(0, .ref m), (1, .int x1), (2, .int x2), (3, .int x3), (4, .int x4)], [.int r], Φ μ'))) : wpE (xT 155) ev Q (24, [(0, .ref m), (1, .int x1), (2, .int x2), (3, .int x3), (4, .int x4)], [.int s0, .int s1, .int s2, .ref m], Φ μ) := by
  obtain ⟨r, μ', he, h⟩ := h
  exact p_callV (cc3 c155_24) (Nat.le_of_ble_eq_true rfl) rfl rfl (Nat.le_of_ble_eq_true rfl) (ml_kd hΦ) he h
theorem B155_27 {ev : xV} {Q : Option Value → xM → Prop} {m : Nat} {Φ : (Nat → Nat → Int32) → xM} (hΦ : MLaw m Φ) {μ : Nat → Nat → Int32} {x1 x2 x3 x4 s0 : Int32} (h : wpE (xT 155) ev Q (32, [(0, .ref m), (1, .int x1), (2, .int x2), (5, .int s0), (6, .int 0)], [], Φ μ)) : wpE (xT 155) ev Q (27, [(0, .ref m), (1, .int x1), (2, .int x2), (3, .int x3), (4, .int x4)], [.int s0], Φ μ) := by
  refine p_ist (ls' := [(5, .int s0), (0, .ref m), (1, .int x1), (2, .int x2), (3, .int x3), (4, .int x4)]) (cc3 c155_27) (by decide) rfl ?_
  refine p_push (cc3 c155_29) ?_
  refine p_ist (ls' := [(6, .int 0), (5, .int s0), (0, .ref m), (1, .int x1), (2, .int x2), (3, .int x3), (4, .int x4)]) (cc3 c155_30) (by decide) rfl ?_
  exact p_lc (ls' := [(0, .ref m), (1, .int x1), (2, .int x2), (5, .int s0), (6, .int 0)]) c155_32 rfl rfl h
theorem B155_32 {ev : xV} {Q : Option Value → xM → Prop} {m : Nat} {Φ : (Nat → Nat → Int32) → xM} (hΦ : MLaw m Φ) {μ : Nat → Nat → Int32} {x1 x2 x5 x6 : Int32} (h : ((4 ≤ x6) → Q (some (.int 1000000)) (Φ μ)) ∧ (¬ (4 ≤ x6) → vp_in x1 8 ∧ vp_in x2 5 ∧ ((((x5 + (x6 * (μ 0 32))) + ((U μ 0 36 x6) 18 x1.toNatClampNeg)) ≤ ((U μ 0 36 x6) 8 x2.toNatClampNeg)) → vp_in x1 8 ∧ (∃ r μ', ev 144 [.ref m, .int x2, .int (x5 + (x6 * (μ 0 32))), .int ((U μ 0 36 x6) 18 x1.toNatClampNeg)] (Φ (U μ 0 36 x6)) (some (.int r)) (Φ μ') ∧ wpE (xT 155) ev Q (90, [(7, .int (x5 + (x6 * (μ 0 32)))), (0, .ref m), (1, .int x1), (2, .int x2), (5, .int x5), (6, .int x6)], [.int r], Φ μ'))) ∧ (¬ (((x5 + (x6 * (μ 0 32))) + ((U μ 0 36 x6) 18 x1.toNatClampNeg)) ≤ ((U μ 0 36 x6) 8 x2.toNatClampNeg)) → Q (some (.int 1000000)) (Φ (U μ 0 36 x6))))) : wpE (xT 155) ev Q (32, [(0, .ref m), (1, .int x1), (2, .int x2), (5, .int x5), (6, .int x6)], [], Φ μ) := by
  refine p_ild (cct c155_32 rfl) rfl ?_
  refine p_push (cc3 c155_34) ?_
  refine p_icmp (cc3 c155_35) (fun c => ?_) (fun c => ?_)
  · have h := h.1 c
    refine p_push (cc3 c155_109) ?_
    exact p_ri (cc3 c155_111) trivial h
  · have h := h.2 c
    refine p_ild (cc3 c155_38) rfl ?_
    refine p_ild (cc3 c155_40) rfl ?_
    refine p_ald (cc3 c155_42) rfl ?_
    refine pm_geti hΦ (v := μ 0 32) (cc3 c155_43) rfl ?_
    refine p_bin (cc3 c155_46) ?_
    refine p_bin (cc3 c155_47) ?_
    refine p_ist (ls' := [(7, .int (x5 + (x6 * (μ 0 32)))), (0, .ref m), (1, .int x1), (2, .int x2), (5, .int x5), (6, .int x6)]) (cc3 c155_48) (by decide) rfl ?_
    refine p_ald (cc3 c155_50) rfl ?_
    refine p_ild (cc3 c155_51) rfl ?_
    refine pm_puti hΦ (cc3 c155_53) ?_
    refine p_ild (cc3 c155_56) rfl ?_
    refine p_ald (cc3 c155_58) rfl ?_
    refine pm_getp hΦ (cc3 c155_59) (c := 18) rfl (by decide) ?_
    refine p_ild (cc3 c155_62) rfl ?_
    obtain ⟨g, h⟩ := h
    refine pm_aldi hΦ (c := 18) (n := 8) (cc3 c155_63) (by decide) rfl rfl rfl g rfl ?_
    refine p_bin (cc3 c155_64) ?_
    refine p_ald (cc3 c155_65) rfl ?_
    refine pm_getp hΦ (cc3 c155_66) (c := 8) rfl (by decide) ?_
    refine p_ild (cc3 c155_69) rfl ?_
    obtain ⟨g, h⟩ := h
    refine pm_aldi hΦ (c := 8) (n := 5) (cc3 c155_70) (by decide) rfl rfl rfl g rfl ?_
    refine p_icmp (cc3 c155_71) (fun c => ?_) (fun c => ?_)
    · have h := h.1 c
      refine p_ald (cc3 c155_77) rfl ?_
      refine p_ild (cc3 c155_78) rfl ?_
      refine p_ild (cc3 c155_79) rfl ?_
      refine p_ald (cc3 c155_81) rfl ?_
      refine pm_getp hΦ (cc3 c155_82) (c := 18) rfl (by decide) ?_
      refine p_ild (cc3 c155_85) rfl ?_
      obtain ⟨g, h⟩ := h
      refine pm_aldi hΦ (c := 18) (n := 8) (cc3 c155_86) (by decide) rfl rfl rfl g rfl ?_
      obtain ⟨r, μ', he, h⟩ := h
      exact p_callV (cc3 c155_87) (Nat.le_of_ble_eq_true rfl) rfl rfl (Nat.le_of_ble_eq_true rfl) (ml_kd hΦ) he h
    · have h := h.2 c
      refine p_push (cc3 c155_74) ?_
      exact p_ri (cc3 c155_76) trivial h
theorem B155_90 {ev : xV} {Q : Option Value → xM → Prop} {m : Nat} {Φ : (Nat → Nat → Int32) → xM} (hΦ : MLaw m Φ) {μ : Nat → Nat → Int32} {x7 x1 x2 x5 x6 s0 : Int32} (h : ((s0 = 0) → vp_in x1 8 ∧ Q (some (.int (x7 + (μ 18 x1.toNatClampNeg)))) (Φ μ)) ∧ (¬ (s0 = 0) → wpE (xT 155) ev Q (32, [(0, .ref m), (1, .int x1), (2, .int x2), (5, .int x5), (6, .int (x6 + 1))], [], Φ μ))) : wpE (xT 155) ev Q (90, [(7, .int x7), (0, .ref m), (1, .int x1), (2, .int x2), (5, .int x5), (6, .int x6)], [.int s0], Φ μ) := by
  refine p_if (cc3 c155_90) (fun c => ?_) (fun c => ?_)
  · have h := h.1 c
    refine p_ild (cc3 c155_93) rfl ?_
    refine p_ald (cc3 c155_95) rfl ?_
    refine pm_getp hΦ (cc3 c155_96) (c := 18) rfl (by decide) ?_
    refine p_ild (cc3 c155_99) rfl ?_
    obtain ⟨g, h⟩ := h
    refine pm_aldi hΦ (c := 18) (n := 8) (cc3 c155_100) (by decide) rfl rfl rfl g rfl ?_
    refine p_bin (cc3 c155_101) ?_
    exact p_ri (cc3 c155_102) trivial h
  · have h := h.2 c
    refine p_iinc (y := x6 + 1) (ls' := [(6, .int (x6 + 1)), (7, .int x7), (0, .ref m), (1, .int x1), (2, .int x2), (5, .int x5)]) (cc3 c155_103) (by decide) rfl rfl rfl ?_
    refine p_goto (cc3 c155_106) ?_
    exact p_lc (ls' := [(0, .ref m), (1, .int x1), (2, .int x2), (5, .int x5), (6, .int (x6 + 1))]) c155_32 rfl rfl h
theorem B156_0 {ev : xV} {Q : Option Value → xM → Prop} {m : Nat} {Φ : (Nat → Nat → Int32) → xM} (hΦ : MLaw m Φ) {μ : Nat → Nat → Int32} {x1 x2 x3 x4 : Int32} (h : (∃ r μ', ev 153 [.ref m, .int x1, .int x2] (Φ μ) (some (.int r)) (Φ μ') ∧ wpE (xT 156) ev Q (6, [(0, .ref m), (1, .int x1), (2, .int x2), (3, .int x3), (4, .int x4)], [.int r], Φ μ'))) : wpE (xT 156) ev Q (0, [(0, .ref m), (1, .int x1), (2, .int x2), (3, .int x3), (4, .int x4)], [], Φ μ) := by
  refine p_ald (cc3 c156_0) rfl ?_
  refine p_ild (cc3 c156_1) rfl ?_
  refine p_ild (cc3 c156_2) rfl ?_
  obtain ⟨r, μ', he, h⟩ := h
  exact p_callV (cc3 c156_3) (Nat.le_of_ble_eq_true rfl) rfl rfl (Nat.le_of_ble_eq_true rfl) (ml_kd hΦ) he h
theorem B156_6 {ev : xV} {Q : Option Value → xM → Prop} {m : Nat} {Φ : (Nat → Nat → Int32) → xM} (hΦ : MLaw m Φ) {μ : Nat → Nat → Int32} {x1 x2 x3 x4 s0 : Int32} (h : (∃ r μ', ev 157 [.ref m, .int x1, .int x2, .int x4] (Φ μ) (some (.int r)) (Φ μ') ∧ wpE (xT 156) ev Q (14, [(0, .ref m), (1, .int x1), (2, .int x2), (3, .int x3), (4, .int x4)], [.int r, .int s0], Φ μ'))) : wpE (xT 156) ev Q (6, [(0, .ref m), (1, .int x1), (2, .int x2), (3, .int x3), (4, .int x4)], [.int s0], Φ μ) := by
  refine p_ald (cc3 c156_6) rfl ?_
  refine p_ild (cc3 c156_7) rfl ?_
  refine p_ild (cc3 c156_8) rfl ?_
  refine p_ild (cc3 c156_9) rfl ?_
  obtain ⟨r, μ', he, h⟩ := h
  exact p_callV (cc3 c156_11) (Nat.le_of_ble_eq_true rfl) rfl rfl (Nat.le_of_ble_eq_true rfl) (ml_kd hΦ) he h
theorem B156_14 {ev : xV} {Q : Option Value → xM → Prop} {m : Nat} {Φ : (Nat → Nat → Int32) → xM} (hΦ : MLaw m Φ) {μ : Nat → Nat → Int32} {x1 x2 x3 x4 s0 s1 : Int32} (h : vp_in x1 8 ∧ (((s1 + (s0 * (μ 0 32))) ≤ (μ 17 x1.toNatClampNeg)) → Q (some (.int 200)) (Φ μ)) ∧ (¬ ((s1 + (s0 * (μ 0 32))) ≤ (μ 17 x1.toNatClampNeg)) → (∃ r μ', ev 157 [.ref m, .int x1, .int x2, .int x4] (Φ μ) (some (.int r)) (Φ μ') ∧ wpE (xT 156) ev Q (38, [(0, .ref m), (1, .int x1), (2, .int x2), (3, .int x3), (4, .int x4)], [.int r, .int x3], Φ μ')))) : wpE (xT 156) ev Q (14, [(0, .ref m), (1, .int x1), (2, .int x2), (3, .int x3), (4, .int x4)], [.int s0, .int s1], Φ μ) := by
  refine p_ald (cc3 c156_14) rfl ?_
  refine pm_geti hΦ (v := μ 0 32) (cc3 c156_15) rfl ?_
  refine p_bin (cc3 c156_18) ?_
  refine p_bin (cc3 c156_19) ?_
  refine p_ald (cc3 c156_20) rfl ?_
  refine pm_getp hΦ (cc3 c156_21) (c := 17) rfl (by decide) ?_
  refine p_ild (cc3 c156_24) rfl ?_
  obtain ⟨g, h⟩ := h
  refine pm_aldi hΦ (c := 17) (n := 8) (cc3 c156_25) (by decide) rfl rfl rfl g rfl ?_
  refine p_icmp (cc3 c156_26) (fun c => ?_) (fun c => ?_)
  · have h := h.1 c
    refine p_push (cc3 c156_42) ?_
    refine p_lc (ls' := []) c156_45 rfl rfl ?_
    exact p_ri (cct c156_45 rfl) trivial h
  · have h := h.2 c
    refine p_ild (cc3 c156_29) rfl ?_
    refine p_ald (cc3 c156_30) rfl ?_
    refine p_ild (cc3 c156_31) rfl ?_
    refine p_ild (cc3 c156_32) rfl ?_
    refine p_ild (cc3 c156_33) rfl ?_
    obtain ⟨r, μ', he, h⟩ := h
    exact p_callV (cc3 c156_35) (Nat.le_of_ble_eq_true rfl) rfl rfl (Nat.le_of_ble_eq_true rfl) (ml_kd hΦ) he h
theorem B156_38 {ev : xV} {Q : Option Value → xM → Prop} {m : Nat} {Φ : (Nat → Nat → Int32) → xM} (hΦ : MLaw m Φ) {μ : Nat → Nat → Int32} {x1 x2 x3 x4 s0 s1 : Int32} (h : Q (some (.int (s1 + s0))) (Φ μ)) : wpE (xT 156) ev Q (38, [(0, .ref m), (1, .int x1), (2, .int x2), (3, .int x3), (4, .int x4)], [.int s0, .int s1], Φ μ) := by
  refine p_bin (cc3 c156_38) ?_
  refine p_goto (cc3 c156_39) ?_
  refine p_lc (ls' := []) c156_45 rfl rfl ?_
  exact p_ri (cct c156_45 rfl) trivial h
theorem B157_0 {ev : xV} {Q : Option Value → xM → Prop} {m : Nat} {Φ : (Nat → Nat → Int32) → xM} (hΦ : MLaw m Φ) {μ : Nat → Nat → Int32} {x1 x2 x3 : Int32} (h : vp_in x1 8 ∧ (((μ 11 x1.toNatClampNeg) = 4) → Q (some (.int (2 * x3))) (Φ μ)) ∧ (¬ ((μ 11 x1.toNatClampNeg) = 4) → vp_in x1 8 ∧ (((μ 11 x1.toNatClampNeg) = 3) → Q (some (.int (x3 + (x3 - x3 / 2 * 2)))) (Φ μ)) ∧ (¬ ((μ 11 x1.toNatClampNeg) = 3) → vp_in x1 8 ∧ (((μ 11 x1.toNatClampNeg) = 5) → vp_in x1 8 ∧ ((((μ 15 x1.toNatClampNeg) - 2) ≤ x2) → Q (some (.int x3)) (Φ μ)) ∧ (¬ (((μ 15 x1.toNatClampNeg) - 2) ≤ x2) → Q (some (.int (x3 + (x3 - x3 / 2 * 2)))) (Φ μ))) ∧ (¬ ((μ 11 x1.toNatClampNeg) = 5) → Q (some (.int x3)) (Φ μ))))) : wpE (xT 157) ev Q (0, [(0, .ref m), (1, .int x1), (2, .int x2), (3, .int x3)], [], Φ μ) := by
  refine p_ald (cc3 c157_0) rfl ?_
  refine pm_getp hΦ (cc3 c157_1) (c := 11) rfl (by decide) ?_
  refine p_ild (cc3 c157_4) rfl ?_
  obtain ⟨g, h⟩ := h
  refine pm_aldi hΦ (c := 11) (n := 8) (cc3 c157_5) (by decide) rfl rfl rfl g rfl ?_
  refine p_push (cc3 c157_6) ?_
  refine p_icmp (cc3 c157_7) (fun c => ?_) (fun c => ?_)
  · have h := h.1 c
    refine p_push (cc3 c157_10) ?_
    refine p_ild (cc3 c157_11) rfl ?_
    refine p_bin (cc3 c157_12) ?_
    exact p_ri (cc3 c157_13) trivial h
  · have h := h.2 c
    refine p_ald (cc3 c157_14) rfl ?_
    refine pm_getp hΦ (cc3 c157_15) (c := 11) rfl (by decide) ?_
    refine p_ild (cc3 c157_18) rfl ?_
    obtain ⟨g, h⟩ := h
    refine pm_aldi hΦ (c := 11) (n := 8) (cc3 c157_19) (by decide) rfl rfl rfl g rfl ?_
    refine p_push (cc3 c157_20) ?_
    refine p_icmp (cc3 c157_21) (fun c => ?_) (fun c => ?_)
    · have h := h.1 c
      refine p_lc (ls' := [(3, .int x3)]) c157_46 rfl rfl ?_
      refine p_ild (cct c157_46 rfl) rfl ?_
      refine p_ild (cc3 c157_47) rfl ?_
      refine p_push (cc3 c157_48) ?_
      refine p_div (cc3 c157_49) (by decide) ?_
      refine p_bin (cc3 c157_50) ?_
      refine p_goto (cc3 c157_51) ?_
      refine p_lc (ls' := []) c157_55 rfl rfl ?_
      exact p_ri (cct c157_55 rfl) trivial h
    · have h := h.2 c
      refine p_ald (cc3 c157_24) rfl ?_
      refine pm_getp hΦ (cc3 c157_25) (c := 11) rfl (by decide) ?_
      refine p_ild (cc3 c157_28) rfl ?_
      obtain ⟨g, h⟩ := h
      refine pm_aldi hΦ (c := 11) (n := 8) (cc3 c157_29) (by decide) rfl rfl rfl g rfl ?_
      refine p_push (cc3 c157_30) ?_
      refine p_icmp (cc3 c157_31) (fun c => ?_) (fun c => ?_)
      · have h := h.1 c
        refine p_ild (cc3 c157_34) rfl ?_
        refine p_ald (cc3 c157_35) rfl ?_
        refine pm_getp hΦ (cc3 c157_36) (c := 15) rfl (by decide) ?_
        refine p_ild (cc3 c157_39) rfl ?_
        obtain ⟨g, h⟩ := h
        refine pm_aldi hΦ (c := 15) (n := 8) (cc3 c157_40) (by decide) rfl rfl rfl g rfl ?_
        refine p_push (cc3 c157_41) ?_
        refine p_bin (cc3 c157_42) ?_
        refine p_icmp (cc3 c157_43) (fun c => ?_) (fun c => ?_)
        · have h := h.1 c
          refine p_lc (ls' := [(3, .int x3)]) c157_54 rfl rfl ?_
          refine p_ild (cct c157_54 rfl) rfl ?_
          refine p_lc (ls' := []) c157_55 rfl rfl ?_
          exact p_ri (cct c157_55 rfl) trivial h
        · have h := h.2 c
          refine p_lc (ls' := [(3, .int x3)]) c157_46 rfl rfl ?_
          refine p_ild (cct c157_46 rfl) rfl ?_
          refine p_ild (cc3 c157_47) rfl ?_
          refine p_push (cc3 c157_48) ?_
          refine p_div (cc3 c157_49) (by decide) ?_
          refine p_bin (cc3 c157_50) ?_
          refine p_goto (cc3 c157_51) ?_
          refine p_lc (ls' := []) c157_55 rfl rfl ?_
          exact p_ri (cct c157_55 rfl) trivial h
      · have h := h.2 c
        refine p_lc (ls' := [(3, .int x3)]) c157_54 rfl rfl ?_
        refine p_ild (cct c157_54 rfl) rfl ?_
        refine p_lc (ls' := []) c157_55 rfl rfl ?_
        exact p_ri (cct c157_55 rfl) trivial h
theorem B158_0 {ev : xV} {Q : Option Value → xM → Prop} {m : Nat} {Φ : (Nat → Nat → Int32) → xM} (hΦ : MLaw m Φ) {μ : Nat → Nat → Int32} {x1 x2 x3 : Int32} (h : wpE (xT 158) ev Q (26, [(0, .ref m), (1, .int x1), (4, .int 0), (5, .int 0)], [], Φ (U (U (U μ 0 39 x2) 0 40 x3) 0 41 ((U (U μ 0 39 x2) 0 40 x3) 30 0)))) : wpE (xT 158) ev Q (0, [(0, .ref m), (1, .int x1), (2, .int x2), (3, .int x3)], [], Φ μ) := by
  refine p_ald (cc3 c158_0) rfl ?_
  refine p_ild (cc3 c158_1) rfl ?_
  refine pm_puti hΦ (cc3 c158_2) ?_
  refine p_ald (cc3 c158_5) rfl ?_
  refine p_ild (cc3 c158_6) rfl ?_
  refine pm_puti hΦ (cc3 c158_7) ?_
  refine p_ald (cc3 c158_10) rfl ?_
  refine p_ald (cc3 c158_11) rfl ?_
  refine pm_getp hΦ (cc3 c158_12) (c := 30) rfl (by decide) ?_
  refine p_push (cc3 c158_15) ?_
  refine pm_aldi hΦ (c := 30) (n := 4800) (k9 := 0) (cc3 c158_16) (by decide) rfl rfl (by decide) (by unfold vp_in; decide) rfl ?_
  refine pm_puti hΦ (cc3 c158_17) ?_
  refine p_push (cc3 c158_20) ?_
  refine p_ist (ls' := [(4, .int 0), (0, .ref m), (1, .int x1), (2, .int x2), (3, .int x3)]) (cc3 c158_21) (by decide) rfl ?_
  refine p_push (cc3 c158_23) ?_
  refine p_ist (ls' := [(5, .int 0), (4, .int 0), (0, .ref m), (1, .int x1), (2, .int x2), (3, .int x3)]) (cc3 c158_24) (by decide) rfl ?_
  exact p_lc (ls' := [(0, .ref m), (1, .int x1), (4, .int 0), (5, .int 0)]) c158_26 rfl rfl h
theorem B158_26 {ev : xV} {Q : Option Value → xM → Prop} {m : Nat} {Φ : (Nat → Nat → Int32) → xM} (hΦ : MLaw m Φ) {μ : Nat → Nat → Int32} {x1 x4 x5 : Int32} (h : vp_in x1 8 ∧ (((μ 15 x1.toNatClampNeg) ≤ x5) → Q none (Φ μ)) ∧ (¬ ((μ 15 x1.toNatClampNeg) ≤ x5) → vp_in x5 24 ∧ vp_in x5 24 ∧ vp_in x5 24 ∧ vp_in x1 8 ∧ ((x5 = (((U (U μ 32 x5.toNatClampNeg ((μ 29 x5.toNatClampNeg) + (x4 * (μ 0 32)))) 31 x5.toNatClampNeg (-1)) 15 x1.toNatClampNeg) - 1)) → Q none (Φ (U (U μ 32 x5.toNatClampNeg ((μ 29 x5.toNatClampNeg) + (x4 * (μ 0 32)))) 31 x5.toNatClampNeg (-1)))) ∧ (¬ (x5 = (((U (U μ 32 x5.toNatClampNeg ((μ 29 x5.toNatClampNeg) + (x4 * (μ 0 32)))) 31 x5.toNatClampNeg (-1)) 15 x1.toNatClampNeg) - 1)) → wpE (xT 158) ev Q (84, [(0, .ref m), (1, .int x1), (4, .int x4), (5, .int x5), (6, .int 1)], [], Φ (U (U μ 32 x5.toNatClampNeg ((μ 29 x5.toNatClampNeg) + (x4 * (μ 0 32)))) 31 x5.toNatClampNeg (-1)))))) : wpE (xT 158) ev Q (26, [(0, .ref m), (1, .int x1), (4, .int x4), (5, .int x5)], [], Φ μ) := by
  refine p_ild (cct c158_26 rfl) rfl ?_
  refine p_ald (cc3 c158_28) rfl ?_
  refine pm_getp hΦ (cc3 c158_29) (c := 15) rfl (by decide) ?_
  refine p_ild (cc3 c158_32) rfl ?_
  obtain ⟨g, h⟩ := h
  refine pm_aldi hΦ (c := 15) (n := 8) (cc3 c158_33) (by decide) rfl rfl rfl g rfl ?_
  refine p_icmp (cc3 c158_34) (fun c => ?_) (fun c => ?_)
  · have h := h.1 c
    exact p_rv (cc3 c158_177) h
  · have h := h.2 c
    refine p_ald (cc3 c158_37) rfl ?_
    refine pm_getp hΦ (cc3 c158_38) (c := 32) rfl (by decide) ?_
    refine p_ild (cc3 c158_41) rfl ?_
    refine p_ald (cc3 c158_43) rfl ?_
    refine pm_getp hΦ (cc3 c158_44) (c := 29) rfl (by decide) ?_
    refine p_ild (cc3 c158_47) rfl ?_
    obtain ⟨g, h⟩ := h
    refine pm_aldi hΦ (c := 29) (n := 24) (cc3 c158_49) (by decide) rfl rfl rfl g rfl ?_
    refine p_ild (cc3 c158_50) rfl ?_
    refine p_ald (cc3 c158_52) rfl ?_
    refine pm_geti hΦ (v := μ 0 32) (cc3 c158_53) rfl ?_
    refine p_bin (cc3 c158_56) ?_
    refine p_bin (cc3 c158_57) ?_
    obtain ⟨g, h⟩ := h
    refine pm_asti hΦ (c := 32) (n := 24) (cc3 c158_58) (by decide) rfl rfl rfl g ?_
    refine p_ald (cc3 c158_59) rfl ?_
    refine pm_getp hΦ (cc3 c158_60) (c := 31) rfl (by decide) ?_
    refine p_ild (cc3 c158_63) rfl ?_
    refine p_push (cc3 c158_65) ?_
    obtain ⟨g, h⟩ := h
    refine pm_asti hΦ (c := 31) (n := 24) (cc3 c158_66) (by decide) rfl rfl rfl g ?_
    refine p_ild (cc3 c158_67) rfl ?_
    refine p_ald (cc3 c158_69) rfl ?_
    refine pm_getp hΦ (cc3 c158_70) (c := 15) rfl (by decide) ?_
    refine p_ild (cc3 c158_73) rfl ?_
    obtain ⟨g, h⟩ := h
    refine pm_aldi hΦ (c := 15) (n := 8) (cc3 c158_74) (by decide) rfl rfl rfl g rfl ?_
    refine p_push (cc3 c158_75) ?_
    refine p_bin (cc3 c158_76) ?_
    refine p_icmp (cc3 c158_77) (fun c => ?_) (fun c => ?_)
    · have h := h.1 c
      exact p_rv (cc3 c158_80) h
    · have h := h.2 c
      refine p_push (cc3 c158_81) ?_
      refine p_ist (ls' := [(6, .int 1), (0, .ref m), (1, .int x1), (4, .int x4), (5, .int x5)]) (cc3 c158_82) (by decide) rfl ?_
      exact p_lc (ls' := [(0, .ref m), (1, .int x1), (4, .int x4), (5, .int x5), (6, .int 1)]) c158_84 rfl rfl h
theorem B158_84 {ev : xV} {Q : Option Value → xM → Prop} {m : Nat} {Φ : (Nat → Nat → Int32) → xM} (hΦ : MLaw m Φ) {μ : Nat → Nat → Int32} {x1 x4 x5 x6 : Int32} (h : (∃ r μ', ev 156 [.ref m, .int x1, .int x5, .int x4, .int x6] (Φ μ) (some (.int r)) (Φ μ') ∧ wpE (xT 158) ev Q (95, [(0, .ref m), (1, .int x1), (4, .int x4), (5, .int x5), (6, .int x6)], [.int r], Φ μ'))) : wpE (xT 158) ev Q (84, [(0, .ref m), (1, .int x1), (4, .int x4), (5, .int x5), (6, .int x6)], [], Φ μ) := by
  refine p_ald (cct c158_84 rfl) rfl ?_
  refine p_ild (cc3 c158_85) rfl ?_
  refine p_ild (cc3 c158_86) rfl ?_
  refine p_ild (cc3 c158_88) rfl ?_
  refine p_ild (cc3 c158_90) rfl ?_
  obtain ⟨r, μ', he, h⟩ := h
  exact p_callV (cc3 c158_92) (Nat.le_of_ble_eq_true rfl) rfl rfl (Nat.le_of_ble_eq_true rfl) (ml_kd hΦ) he h
theorem B158_95 {ev : xV} {Q : Option Value → xM → Prop} {m : Nat} {Φ : (Nat → Nat → Int32) → xM} (hΦ : MLaw m Φ) {μ : Nat → Nat → Int32} {x1 x4 x5 x6 s0 : Int32} (h : ((200 ≤ s0) → wpE (xT 158) ev Q (84, [(0, .ref m), (1, .int x1), (4, .int x4), (5, .int x5), (6, .int (x6 + 1))], [], Φ μ)) ∧ (¬ (200 ≤ s0) → (∃ r μ', ev 156 [.ref m, .int x1, .int x5, .int x4, .int x6] (Φ μ) (some (.int r)) (Φ μ') ∧ wpE (xT 158) ev Q (124, [(0, .ref m), (1, .int x1), (4, .int x4), (5, .int x5), (6, .int x6)], [.int r, .int (200 * (x5 + 1)), .ref (m + 30)], Φ μ')))) : wpE (xT 158) ev Q (95, [(0, .ref m), (1, .int x1), (4, .int x4), (5, .int x5), (6, .int x6)], [.int s0], Φ μ) := by
  refine p_push (cc3 c158_95) ?_
  refine p_icmp (cc3 c158_98) (fun c => ?_) (fun c => ?_)
  · have h := h.1 c
    refine p_iinc (y := x6 + 1) (ls' := [(6, .int (x6 + 1)), (0, .ref m), (1, .int x1), (4, .int x4), (5, .int x5)]) (cct c158_143 rfl) (by decide) rfl rfl rfl ?_
    refine p_goto (cc3 c158_146) ?_
    exact p_lc (ls' := [(0, .ref m), (1, .int x1), (4, .int x4), (5, .int x5), (6, .int (x6 + 1))]) c158_84 rfl rfl h
  · have h := h.2 c
    refine p_ald (cc3 c158_101) rfl ?_
    refine pm_getp hΦ (cc3 c158_102) (c := 30) rfl (by decide) ?_
    refine p_push (cc3 c158_105) ?_
    refine p_ild (cc3 c158_108) rfl ?_
    refine p_push (cc3 c158_110) ?_
    refine p_bin (cc3 c158_111) ?_
    refine p_bin (cc3 c158_112) ?_
    refine p_ald (cc3 c158_113) rfl ?_
    refine p_ild (cc3 c158_114) rfl ?_
    refine p_ild (cc3 c158_115) rfl ?_
    refine p_ild (cc3 c158_117) rfl ?_
    refine p_ild (cc3 c158_119) rfl ?_
    obtain ⟨r, μ', he, h⟩ := h
    exact p_callV (cc3 c158_121) (Nat.le_of_ble_eq_true rfl) rfl rfl (Nat.le_of_ble_eq_true rfl) (ml_kd hΦ) he h
theorem B158_124 {ev : xV} {Q : Option Value → xM → Prop} {m : Nat} {Φ : (Nat → Nat → Int32) → xM} (hΦ : MLaw m Φ) {μ : Nat → Nat → Int32} {x1 x4 x5 x6 s0 s1 : Int32} (h : vp_in (s1 + s0) 4800 ∧ vp_in ((200 * x5) + x4) 4800 ∧ (((μ 30 (s1 + s0).toNatClampNeg) = (μ 30 ((200 * x5) + x4).toNatClampNeg)) → vp_in x5 24 ∧ (∃ r μ', ev 156 [.ref m, .int x1, .int x5, .int x4, .int x6] (Φ (U μ 31 x5.toNatClampNeg x6)) (some (.int r)) (Φ μ') ∧ wpE (xT 158) ev Q (169, [(0, .ref m), (1, .int x1), (4, .int x4), (5, .int x5), (6, .int x6)], [.int r], Φ μ'))) ∧ (¬ ((μ 30 (s1 + s0).toNatClampNeg) = (μ 30 ((200 * x5) + x4).toNatClampNeg)) → wpE (xT 158) ev Q (84, [(0, .ref m), (1, .int x1), (4, .int x4), (5, .int x5), (6, .int (x6 + 1))], [], Φ μ))) : wpE (xT 158) ev Q (124, [(0, .ref m), (1, .int x1), (4, .int x4), (5, .int x5), (6, .int x6)], [.int s0, .int s1, .ref (m + 30)], Φ μ) := by
  refine p_bin (cc3 c158_124) ?_
  obtain ⟨g, h⟩ := h
  refine pm_aldi hΦ (c := 30) (n := 4800) (cc3 c158_125) (by decide) rfl rfl rfl g rfl ?_
  refine p_ald (cc3 c158_126) rfl ?_
  refine pm_getp hΦ (cc3 c158_127) (c := 30) rfl (by decide) ?_
  refine p_push (cc3 c158_130) ?_
  refine p_ild (cc3 c158_133) rfl ?_
  refine p_bin (cc3 c158_135) ?_
  refine p_ild (cc3 c158_136) rfl ?_
  refine p_bin (cc3 c158_138) ?_
  obtain ⟨g, h⟩ := h
  refine pm_aldi hΦ (c := 30) (n := 4800) (cc3 c158_139) (by decide) rfl rfl rfl g rfl ?_
  refine p_icmp (cc3 c158_140) (fun c => ?_) (fun c => ?_)
  · have h := h.1 c
    refine p_ald (cc3 c158_149) rfl ?_
    refine pm_getp hΦ (cc3 c158_150) (c := 31) rfl (by decide) ?_
    refine p_ild (cc3 c158_153) rfl ?_
    refine p_ild (cc3 c158_155) rfl ?_
    obtain ⟨g, h⟩ := h
    refine pm_asti hΦ (c := 31) (n := 24) (cc3 c158_157) (by decide) rfl rfl rfl g ?_
    refine p_ald (cc3 c158_158) rfl ?_
    refine p_ild (cc3 c158_159) rfl ?_
    refine p_ild (cc3 c158_160) rfl ?_
    refine p_ild (cc3 c158_162) rfl ?_
    refine p_ild (cc3 c158_164) rfl ?_
    obtain ⟨r, μ', he, h⟩ := h
    exact p_callV (cc3 c158_166) (Nat.le_of_ble_eq_true rfl) rfl rfl (Nat.le_of_ble_eq_true rfl) (ml_kd hΦ) he h
  · have h := h.2 c
    refine p_iinc (y := x6 + 1) (ls' := [(6, .int (x6 + 1)), (0, .ref m), (1, .int x1), (4, .int x4), (5, .int x5)]) (cct c158_143 rfl) (by decide) rfl rfl rfl ?_
    refine p_goto (cc3 c158_146) ?_
    exact p_lc (ls' := [(0, .ref m), (1, .int x1), (4, .int x4), (5, .int x5), (6, .int (x6 + 1))]) c158_84 rfl rfl h
theorem B158_169 {ev : xV} {Q : Option Value → xM → Prop} {m : Nat} {Φ : (Nat → Nat → Int32) → xM} (hΦ : MLaw m Φ) {μ : Nat → Nat → Int32} {x1 x4 x5 x6 s0 : Int32} (h : wpE (xT 158) ev Q (26, [(0, .ref m), (1, .int x1), (4, .int s0), (5, .int (x5 + 1))], [], Φ μ)) : wpE (xT 158) ev Q (169, [(0, .ref m), (1, .int x1), (4, .int x4), (5, .int x5), (6, .int x6)], [.int s0], Φ μ) := by
  refine p_ist (ls' := [(4, .int s0), (0, .ref m), (1, .int x1), (5, .int x5), (6, .int x6)]) (cc3 c158_169) (by decide) rfl ?_
  refine p_iinc (y := x5 + 1) (ls' := [(5, .int (x5 + 1)), (4, .int s0), (0, .ref m), (1, .int x1), (6, .int x6)]) (cc3 c158_171) (by decide) rfl rfl rfl ?_
  refine p_goto (cc3 c158_174) ?_
  exact p_lc (ls' := [(0, .ref m), (1, .int x1), (4, .int s0), (5, .int (x5 + 1))]) c158_26 rfl rfl h
theorem B159_0 {ev : xV} {Q : Option Value → xM → Prop} {m : Nat} {Φ : (Nat → Nat → Int32) → xM} (hΦ : MLaw m Φ) {μ : Nat → Nat → Int32} {x1 x2 : Int32} (h : (∃ r μ', ev 147 [.ref m, .int x1] (Φ μ) (some (.int r)) (Φ μ') ∧ wpE (xT 159) ev Q (5, [(0, .ref m), (1, .int x1), (2, .int x2)], [.int r], Φ μ'))) : wpE (xT 159) ev Q (0, [(0, .ref m), (1, .int x1), (2, .int x2)], [], Φ μ) := by
  refine p_ald (cc3 c159_0) rfl ?_
  refine p_ild (cc3 c159_1) rfl ?_
  obtain ⟨r, μ', he, h⟩ := h
  exact p_callV (cc3 c159_2) (Nat.le_of_ble_eq_true rfl) rfl rfl (Nat.le_of_ble_eq_true rfl) (ml_kd hΦ) he h
theorem B159_5 {ev : xV} {Q : Option Value → xM → Prop} {m : Nat} {Φ : (Nat → Nat → Int32) → xM} (hΦ : MLaw m Φ) {μ : Nat → Nat → Int32} {x1 x2 s0 : Int32} (h : ((s0 = 0) → Q (some (.int ((-2)))) (Φ μ)) ∧ (¬ (s0 = 0) → (∃ r μ', ev 129 [.ref m, .int x2, .int 0, .int 4] (Φ μ) (some (.int r)) (Φ μ') ∧ wpE (xT 159) ev Q (15, [(0, .ref m), (1, .int x1), (2, .int x2)], [.int r], Φ μ')))) : wpE (xT 159) ev Q (5, [(0, .ref m), (1, .int x1), (2, .int x2)], [.int s0], Φ μ) := by
  refine p_if (cc3 c159_5) (fun c => ?_) (fun c => ?_)
  · have h := h.1 c
    refine p_lc (ls' := []) c159_18 rfl rfl ?_
    refine p_push (cct c159_18 rfl) ?_
    exact p_ri (cc3 c159_20) trivial h
  · have h := h.2 c
    refine p_ald (cc3 c159_8) rfl ?_
    refine p_ild (cc3 c159_9) rfl ?_
    refine p_push (cc3 c159_10) ?_
    refine p_push (cc3 c159_11) ?_
    obtain ⟨r, μ', he, h⟩ := h
    exact p_callV (cc3 c159_12) (Nat.le_of_ble_eq_true rfl) rfl rfl (Nat.le_of_ble_eq_true rfl) (ml_kd hΦ) he h
theorem B159_15 {ev : xV} {Q : Option Value → xM → Prop} {m : Nat} {Φ : (Nat → Nat → Int32) → xM} (hΦ : MLaw m Φ) {μ : Nat → Nat → Int32} {x1 x2 s0 : Int32} (h : ((s0 = 0) → Q (some (.int ((-2)))) (Φ μ)) ∧ (¬ (s0 = 0) → (∃ r μ', ev 160 [.ref m, .int x1] (Φ μ) (some (.int r)) (Φ μ') ∧ wpE (xT 159) ev Q (26, [(0, .ref m), (1, .int x1), (2, .int x2)], [.int r], Φ μ')))) : wpE (xT 159) ev Q (15, [(0, .ref m), (1, .int x1), (2, .int x2)], [.int s0], Φ μ) := by
  refine p_if (cc3 c159_15) (fun c => ?_) (fun c => ?_)
  · have h := h.1 c
    refine p_lc (ls' := []) c159_18 rfl rfl ?_
    refine p_push (cct c159_18 rfl) ?_
    exact p_ri (cc3 c159_20) trivial h
  · have h := h.2 c
    refine p_ald (cc3 c159_21) rfl ?_
    refine p_ild (cc3 c159_22) rfl ?_
    obtain ⟨r, μ', he, h⟩ := h
    exact p_callV (cc3 c159_23) (Nat.le_of_ble_eq_true rfl) rfl rfl (Nat.le_of_ble_eq_true rfl) (ml_kd hΦ) he h
theorem B159_26 {ev : xV} {Q : Option Value → xM → Prop} {m : Nat} {Φ : (Nat → Nat → Int32) → xM} (hΦ : MLaw m Φ) {μ : Nat → Nat → Int32} {x1 x2 s0 : Int32} (h : ((s0 = 0) → Q (some (.int ((-3)))) (Φ μ)) ∧ (¬ (s0 = 0) → ((x2 = 0) → vp_in x1 8 ∧ Q (some (.int (μ 21 x1.toNatClampNeg))) (Φ μ)) ∧ (¬ (x2 = 0) → ((x2 = 1) → vp_in x1 8 ∧ Q (some (.int (μ 22 x1.toNatClampNeg))) (Φ μ)) ∧ (¬ (x2 = 1) → ((x2 = 2) → vp_in x1 8 ∧ vp_in x1 8 ∧ Q (some (.int ((μ 22 x1.toNatClampNeg) + (μ 18 x1.toNatClampNeg)))) (Φ μ)) ∧ (¬ (x2 = 2) → ((x2 = 3) → vp_in x1 8 ∧ Q (some (.int (μ 23 x1.toNatClampNeg))) (Φ μ)) ∧ (¬ (x2 = 3) → vp_in x1 8 ∧ Q (some (.int (μ 24 x1.toNatClampNeg))) (Φ μ))))))) : wpE (xT 159) ev Q (26, [(0, .ref m), (1, .int x1), (2, .int x2)], [.int s0], Φ μ) := by
  refine p_if (cc3 c159_26) (fun c => ?_) (fun c => ?_)
  · have h := h.1 c
    refine p_push (cc3 c159_29) ?_
    exact p_ri (cc3 c159_31) trivial h
  · have h := h.2 c
    refine p_ild (cc3 c159_32) rfl ?_
    refine p_if (cc3 c159_33) (fun c => ?_) (fun c => ?_)
    · have h := h.1 c
      refine p_ald (cc3 c159_36) rfl ?_
      refine pm_getp hΦ (cc3 c159_37) (c := 21) rfl (by decide) ?_
      refine p_ild (cc3 c159_40) rfl ?_
      obtain ⟨g, h⟩ := h
      refine pm_aldi hΦ (c := 21) (n := 8) (cc3 c159_41) (by decide) rfl rfl rfl g rfl ?_
      refine p_goto (cc3 c159_42) ?_
      refine p_lc (ls' := []) c159_100 rfl rfl ?_
      exact p_ri (cct c159_100 rfl) trivial h
    · have h := h.2 c
      refine p_ild (cc3 c159_45) rfl ?_
      refine p_push (cc3 c159_46) ?_
      refine p_icmp (cc3 c159_47) (fun c => ?_) (fun c => ?_)
      · have h := h.1 c
        refine p_ald (cc3 c159_50) rfl ?_
        refine pm_getp hΦ (cc3 c159_51) (c := 22) rfl (by decide) ?_
        refine p_ild (cc3 c159_54) rfl ?_
        obtain ⟨g, h⟩ := h
        refine pm_aldi hΦ (c := 22) (n := 8) (cc3 c159_55) (by decide) rfl rfl rfl g rfl ?_
        refine p_goto (cc3 c159_56) ?_
        refine p_lc (ls' := []) c159_100 rfl rfl ?_
        exact p_ri (cct c159_100 rfl) trivial h
      · have h := h.2 c
        refine p_ild (cc3 c159_59) rfl ?_
        refine p_push (cc3 c159_60) ?_
        refine p_icmp (cc3 c159_61) (fun c => ?_) (fun c => ?_)
        · have h := h.1 c
          refine p_ald (cc3 c159_64) rfl ?_
          refine pm_getp hΦ (cc3 c159_65) (c := 22) rfl (by decide) ?_
          refine p_ild (cc3 c159_68) rfl ?_
          obtain ⟨g, h⟩ := h
          refine pm_aldi hΦ (c := 22) (n := 8) (cc3 c159_69) (by decide) rfl rfl rfl g rfl ?_
          refine p_ald (cc3 c159_70) rfl ?_
          refine pm_getp hΦ (cc3 c159_71) (c := 18) rfl (by decide) ?_
          refine p_ild (cc3 c159_74) rfl ?_
          obtain ⟨g, h⟩ := h
          refine pm_aldi hΦ (c := 18) (n := 8) (cc3 c159_75) (by decide) rfl rfl rfl g rfl ?_
          refine p_bin (cc3 c159_76) ?_
          refine p_goto (cc3 c159_77) ?_
          refine p_lc (ls' := []) c159_100 rfl rfl ?_
          exact p_ri (cct c159_100 rfl) trivial h
        · have h := h.2 c
          refine p_ild (cc3 c159_80) rfl ?_
          refine p_push (cc3 c159_81) ?_
          refine p_icmp (cc3 c159_82) (fun c => ?_) (fun c => ?_)
          · have h := h.1 c
            refine p_ald (cc3 c159_85) rfl ?_
            refine pm_getp hΦ (cc3 c159_86) (c := 23) rfl (by decide) ?_
            refine p_ild (cc3 c159_89) rfl ?_
            obtain ⟨g, h⟩ := h
            refine pm_aldi hΦ (c := 23) (n := 8) (cc3 c159_90) (by decide) rfl rfl rfl g rfl ?_
            refine p_goto (cc3 c159_91) ?_
            refine p_lc (ls' := []) c159_100 rfl rfl ?_
            exact p_ri (cct c159_100 rfl) trivial h
          · have h := h.2 c
            refine p_ald (cc3 c159_94) rfl ?_
            refine pm_getp hΦ (cc3 c159_95) (c := 24) rfl (by decide) ?_
            refine p_ild (cc3 c159_98) rfl ?_
            obtain ⟨g, h⟩ := h
            refine pm_aldi hΦ (c := 24) (n := 8) (cc3 c159_99) (by decide) rfl rfl rfl g rfl ?_
            refine p_lc (ls' := []) c159_100 rfl rfl ?_
            exact p_ri (cct c159_100 rfl) trivial h
theorem B160_0 {ev : xV} {Q : Option Value → xM → Prop} {m : Nat} {Φ : (Nat → Nat → Int32) → xM} (hΦ : MLaw m Φ) {μ : Nat → Nat → Int32} {x1 : Int32} (h : (∃ r μ', ev 147 [.ref m, .int x1] (Φ μ) (some (.int r)) (Φ μ') ∧ wpE (xT 160) ev Q (5, [(0, .ref m), (1, .int x1)], [.int r], Φ μ'))) : wpE (xT 160) ev Q (0, [(0, .ref m), (1, .int x1)], [], Φ μ) := by
  refine p_ald (cc3 c160_0) rfl ?_
  refine p_ild (cc3 c160_1) rfl ?_
  obtain ⟨r, μ', he, h⟩ := h
  exact p_callV (cc3 c160_2) (Nat.le_of_ble_eq_true rfl) rfl rfl (Nat.le_of_ble_eq_true rfl) (ml_kd hΦ) he h
theorem B160_5 {ev : xV} {Q : Option Value → xM → Prop} {m : Nat} {Φ : (Nat → Nat → Int32) → xM} (hΦ : MLaw m Φ) {μ : Nat → Nat → Int32} {x1 s0 : Int32} (h : ((s0 = 0) → Q (some (.int 0)) (Φ μ)) ∧ (¬ (s0 = 0) → vp_in x1 8 ∧ (((μ 20 x1.toNatClampNeg) < 0) → Q (some (.int 0)) (Φ μ)) ∧ (¬ ((μ 20 x1.toNatClampNeg) < 0) → Q (some (.int 1)) (Φ μ)))) : wpE (xT 160) ev Q (5, [(0, .ref m), (1, .int x1)], [.int s0], Φ μ) := by
  refine p_if (cc3 c160_5) (fun c => ?_) (fun c => ?_)
  · have h := h.1 c
    refine p_lc (ls' := []) c160_21 rfl rfl ?_
    refine p_push (cct c160_21 rfl) ?_
    exact p_ri (cct c160_22 rfl) (by decide) h
  · have h := h.2 c
    refine p_ald (cc3 c160_8) rfl ?_
    refine pm_getp hΦ (cc3 c160_9) (c := 20) rfl (by decide) ?_
    refine p_ild (cc3 c160_12) rfl ?_
    obtain ⟨g, h⟩ := h
    refine pm_aldi hΦ (c := 20) (n := 8) (cc3 c160_13) (by decide) rfl rfl rfl g rfl ?_
    refine p_if (cc3 c160_14) (fun c => ?_) (fun c => ?_)
    · have h := h.1 c
      refine p_lc (ls' := []) c160_21 rfl rfl ?_
      refine p_push (cct c160_21 rfl) ?_
      exact p_ri (cct c160_22 rfl) (by decide) h
    · have h := h.2 c
      refine p_push (cc3 c160_17) ?_
      refine p_goto (cc3 c160_18) ?_
      refine p_lc (ls' := []) c160_22 rfl rfl ?_
      exact p_ri (cct c160_22 rfl) (by decide) h
