theorem B173_0 {ev : xV} {Q : Option Value → xM → Prop} {m : Nat} {Φ : (Nat → Nat → Int32) → xM} (hΦ : MLaw m Φ) {μ : Nat → Nat → Int32} {x1 : Int32} (h : ((x1 < 97) → Q (some (.int 0)) (Φ μ)) ∧ (¬ (x1 < 97) → ((122 < x1) → Q (some (.int 0)) (Φ μ)) ∧ (¬ (122 < x1) → Q (some (.int 1)) (Φ μ)))) : wpE (xT 173) ev Q (0, [(0, .ref m), (1, .int x1)], [], Φ μ) := by
  refine p_ild (cc3 c173_0) rfl ?_
  refine p_push (cc3 c173_1) ?_
  refine p_icmp (cc3 c173_3) (fun c => ?_) (fun c => ?_)
  · have h := h.1 c
    refine p_lc (ls' := []) c173_16 rfl rfl ?_
    refine p_push (cct c173_16 rfl) ?_
    exact p_ri (cct c173_17 rfl) (by decide) h
  · have h := h.2 c
    refine p_ild (cc3 c173_6) rfl ?_
    refine p_push (cc3 c173_7) ?_
    refine p_icmp (cc3 c173_9) (fun c => ?_) (fun c => ?_)
    · have h := h.1 c
      refine p_lc (ls' := []) c173_16 rfl rfl ?_
      refine p_push (cct c173_16 rfl) ?_
      exact p_ri (cct c173_17 rfl) (by decide) h
    · have h := h.2 c
      refine p_push (cc3 c173_12) ?_
      refine p_goto (cc3 c173_13) ?_
      refine p_lc (ls' := []) c173_17 rfl rfl ?_
      exact p_ri (cct c173_17 rfl) (by decide) h
theorem B174_0 {ev : xV} {Q : Option Value → xM → Prop} {m : Nat} {Φ : (Nat → Nat → Int32) → xM} (hΦ : MLaw m Φ) {μ : Nat → Nat → Int32} (h : (((μ 0 1) ≤ (μ 0 46)) → (∃ r μ', ev 175 [.ref m, .long 707748] (Φ (U μ 0 47 2)) (some (.int r)) (Φ μ') ∧ wpE (xT 174) ev Q (53, [(0, .ref m)], [.int r, .ref m], Φ μ'))) ∧ (¬ ((μ 0 1) ≤ (μ 0 46)) → vp_in (μ 0 46) 160 ∧ (∃ r μ', ev 173 [.ref m, .int (μ 1 (μ 0 46).toNatClampNeg)] (Φ μ) (some (.int r)) (Φ μ') ∧ wpE (xT 174) ev Q (24, [(0, .ref m)], [.int r], Φ μ')))) : wpE (xT 174) ev Q (0, [(0, .ref m)], [], Φ μ) := by
  refine p_ald (cct c174_0 rfl) rfl ?_
  refine pm_geti hΦ (v := μ 0 46) (cc3 c174_1) rfl ?_
  refine p_ald (cc3 c174_4) rfl ?_
  refine pm_geti hΦ (v := μ 0 1) (cc3 c174_5) rfl ?_
  refine p_icmp (cc3 c174_8) (fun c => ?_) (fun c => ?_)
  · have h := h.1 c
    refine p_ald (cct c174_40 rfl) rfl ?_
    refine p_push (cc3 c174_41) ?_
    refine pm_puti hΦ (cc3 c174_42) ?_
    refine p_ald (cc3 c174_45) rfl ?_
    refine p_ald (cc3 c174_46) rfl ?_
    refine p_push (cc3 c174_47) ?_
    obtain ⟨r, μ', he, h⟩ := h
    exact p_callV (cc3 c174_50) (Nat.le_of_ble_eq_true rfl) rfl rfl (Nat.le_of_ble_eq_true rfl) (ml_kd hΦ) he h
  · have h := h.2 c
    refine p_ald (cc3 c174_11) rfl ?_
    refine p_ald (cc3 c174_12) rfl ?_
    refine pm_getp hΦ (cc3 c174_13) (c := 1) rfl (by decide) ?_
    refine p_ald (cc3 c174_16) rfl ?_
    refine pm_geti hΦ (v := μ 0 46) (cc3 c174_17) rfl ?_
    obtain ⟨g, h⟩ := h
    refine pm_aldi hΦ (c := 1) (n := 160) (cc3 c174_20) (by decide) rfl rfl rfl g rfl ?_
    obtain ⟨r, μ', he, h⟩ := h
    exact p_callV (cc3 c174_21) (Nat.le_of_ble_eq_true rfl) rfl rfl (Nat.le_of_ble_eq_true rfl) (ml_kd hΦ) he h
theorem B174_24 {ev : xV} {Q : Option Value → xM → Prop} {m : Nat} {Φ : (Nat → Nat → Int32) → xM} (hΦ : MLaw m Φ) {μ : Nat → Nat → Int32} {s0 : Int32} (h : ((s0 = 0) → (∃ r μ', ev 175 [.ref m, .long 707748] (Φ (U μ 0 47 2)) (some (.int r)) (Φ μ') ∧ wpE (xT 174) ev Q (53, [(0, .ref m)], [.int r, .ref m], Φ μ'))) ∧ (¬ (s0 = 0) → wpE (xT 174) ev Q (0, [(0, .ref m)], [], Φ (U μ 0 46 ((μ 0 46) + 1))))) : wpE (xT 174) ev Q (24, [(0, .ref m)], [.int s0], Φ μ) := by
  refine p_if (cc3 c174_24) (fun c => ?_) (fun c => ?_)
  · have h := h.1 c
    refine p_ald (cct c174_40 rfl) rfl ?_
    refine p_push (cc3 c174_41) ?_
    refine pm_puti hΦ (cc3 c174_42) ?_
    refine p_ald (cc3 c174_45) rfl ?_
    refine p_ald (cc3 c174_46) rfl ?_
    refine p_push (cc3 c174_47) ?_
    obtain ⟨r, μ', he, h⟩ := h
    exact p_callV (cc3 c174_50) (Nat.le_of_ble_eq_true rfl) rfl rfl (Nat.le_of_ble_eq_true rfl) (ml_kd hΦ) he h
  · have h := h.2 c
    refine p_ald (cc3 c174_27) rfl ?_
    refine p_dup (cc3 c174_28) rfl ?_
    refine pm_geti hΦ (v := μ 0 46) (cc3 c174_29) rfl ?_
    refine p_push (cc3 c174_32) ?_
    refine p_bin (cc3 c174_33) ?_
    refine pm_puti hΦ (cc3 c174_34) ?_
    refine p_goto (cc3 c174_37) ?_
    exact h
theorem B174_53 {ev : xV} {Q : Option Value → xM → Prop} {m : Nat} {Φ : (Nat → Nat → Int32) → xM} (hΦ : MLaw m Φ) {μ : Nat → Nat → Int32} {s0 : Int32} (h : ((s0 = 0) → (∃ r μ', ev 175 [.ref m, .long 549619347] (Φ μ) (some (.int r)) (Φ μ') ∧ wpE (xT 174) ev Q (67, [(0, .ref m)], [.int r, .ref m], Φ μ'))) ∧ (¬ (s0 = 0) → wpE (xT 174) ev Q (131, [(0, .ref m)], [.int 0, .ref m], Φ μ))) : wpE (xT 174) ev Q (53, [(0, .ref m)], [.int s0, .ref m], Φ μ) := by
  refine p_if (cc3 c174_53) (fun c => ?_) (fun c => ?_)
  · have h := h.1 c
    refine p_ald (cc3 c174_60) rfl ?_
    refine p_push (cc3 c174_61) ?_
    obtain ⟨r, μ', he, h⟩ := h
    exact p_callV (cc3 c174_64) (Nat.le_of_ble_eq_true rfl) rfl rfl (Nat.le_of_ble_eq_true rfl) (ml_kd hΦ) he h
  · have h := h.2 c
    refine p_push (cc3 c174_56) ?_
    refine p_goto (cc3 c174_57) ?_
    exact h
theorem B174_67 {ev : xV} {Q : Option Value → xM → Prop} {m : Nat} {Φ : (Nat → Nat → Int32) → xM} (hΦ : MLaw m Φ) {μ : Nat → Nat → Int32} {s0 : Int32} (h : ((s0 = 0) → (∃ r μ', ev 175 [.ref m, .long 8496] (Φ μ) (some (.int r)) (Φ μ') ∧ wpE (xT 174) ev Q (81, [(0, .ref m)], [.int r, .ref m], Φ μ'))) ∧ (¬ (s0 = 0) → wpE (xT 174) ev Q (131, [(0, .ref m)], [.int 1, .ref m], Φ μ))) : wpE (xT 174) ev Q (67, [(0, .ref m)], [.int s0, .ref m], Φ μ) := by
  refine p_if (cc3 c174_67) (fun c => ?_) (fun c => ?_)
  · have h := h.1 c
    refine p_ald (cc3 c174_74) rfl ?_
    refine p_push (cc3 c174_75) ?_
    obtain ⟨r, μ', he, h⟩ := h
    exact p_callV (cc3 c174_78) (Nat.le_of_ble_eq_true rfl) rfl rfl (Nat.le_of_ble_eq_true rfl) (ml_kd hΦ) he h
  · have h := h.2 c
    refine p_push (cc3 c174_70) ?_
    refine p_goto (cc3 c174_71) ?_
    exact h
theorem B174_81 {ev : xV} {Q : Option Value → xM → Prop} {m : Nat} {Φ : (Nat → Nat → Int32) → xM} (hΦ : MLaw m Φ) {μ : Nat → Nat → Int32} {s0 : Int32} (h : ((s0 = 0) → (∃ r μ', ev 175 [.ref m, .long 24159860] (Φ μ) (some (.int r)) (Φ μ') ∧ wpE (xT 174) ev Q (95, [(0, .ref m)], [.int r, .ref m], Φ μ'))) ∧ (¬ (s0 = 0) → wpE (xT 174) ev Q (131, [(0, .ref m)], [.int 2, .ref m], Φ μ))) : wpE (xT 174) ev Q (81, [(0, .ref m)], [.int s0, .ref m], Φ μ) := by
  refine p_if (cc3 c174_81) (fun c => ?_) (fun c => ?_)
  · have h := h.1 c
    refine p_ald (cc3 c174_88) rfl ?_
    refine p_push (cc3 c174_89) ?_
    obtain ⟨r, μ', he, h⟩ := h
    exact p_callV (cc3 c174_92) (Nat.le_of_ble_eq_true rfl) rfl rfl (Nat.le_of_ble_eq_true rfl) (ml_kd hΦ) he h
  · have h := h.2 c
    refine p_push (cc3 c174_84) ?_
    refine p_goto (cc3 c174_85) ?_
    exact h
theorem B174_95 {ev : xV} {Q : Option Value → xM → Prop} {m : Nat} {Φ : (Nat → Nat → Int32) → xM} (hΦ : MLaw m Φ) {μ : Nat → Nat → Int32} {s0 : Int32} (h : ((s0 = 0) → (∃ r μ', ev 175 [.ref m, .long 20201198] (Φ μ) (some (.int r)) (Φ μ') ∧ wpE (xT 174) ev Q (109, [(0, .ref m)], [.int r, .ref m], Φ μ'))) ∧ (¬ (s0 = 0) → wpE (xT 174) ev Q (131, [(0, .ref m)], [.int 3, .ref m], Φ μ))) : wpE (xT 174) ev Q (95, [(0, .ref m)], [.int s0, .ref m], Φ μ) := by
  refine p_if (cc3 c174_95) (fun c => ?_) (fun c => ?_)
  · have h := h.1 c
    refine p_ald (cc3 c174_102) rfl ?_
    refine p_push (cc3 c174_103) ?_
    obtain ⟨r, μ', he, h⟩ := h
    exact p_callV (cc3 c174_106) (Nat.le_of_ble_eq_true rfl) rfl rfl (Nat.le_of_ble_eq_true rfl) (ml_kd hΦ) he h
  · have h := h.2 c
    refine p_push (cc3 c174_98) ?_
    refine p_goto (cc3 c174_99) ?_
    exact h
theorem B174_109 {ev : xV} {Q : Option Value → xM → Prop} {m : Nat} {Φ : (Nat → Nat → Int32) → xM} (hΦ : MLaw m Φ) {μ : Nat → Nat → Int32} {s0 : Int32} (h : ((s0 = 0) → (∃ r μ', ev 175 [.ref m, .long 20604293] (Φ μ) (some (.int r)) (Φ μ') ∧ wpE (xT 174) ev Q (123, [(0, .ref m)], [.int r, .ref m], Φ μ'))) ∧ (¬ (s0 = 0) → wpE (xT 174) ev Q (131, [(0, .ref m)], [.int 4, .ref m], Φ μ))) : wpE (xT 174) ev Q (109, [(0, .ref m)], [.int s0, .ref m], Φ μ) := by
  refine p_if (cc3 c174_109) (fun c => ?_) (fun c => ?_)
  · have h := h.1 c
    refine p_ald (cc3 c174_116) rfl ?_
    refine p_push (cc3 c174_117) ?_
    obtain ⟨r, μ', he, h⟩ := h
    exact p_callV (cc3 c174_120) (Nat.le_of_ble_eq_true rfl) rfl rfl (Nat.le_of_ble_eq_true rfl) (ml_kd hΦ) he h
  · have h := h.2 c
    refine p_push (cc3 c174_112) ?_
    refine p_goto (cc3 c174_113) ?_
    exact h
theorem B174_123 {ev : xV} {Q : Option Value → xM → Prop} {m : Nat} {Φ : (Nat → Nat → Int32) → xM} (hΦ : MLaw m Φ) {μ : Nat → Nat → Int32} {s0 : Int32} (h : ((s0 = 0) → wpE (xT 174) ev Q (131, [(0, .ref m)], [.int ((-1)), .ref m], Φ μ)) ∧ (¬ (s0 = 0) → wpE (xT 174) ev Q (131, [(0, .ref m)], [.int 5, .ref m], Φ μ))) : wpE (xT 174) ev Q (123, [(0, .ref m)], [.int s0, .ref m], Φ μ) := by
  refine p_if (cc3 c174_123) (fun c => ?_) (fun c => ?_)
  · have h := h.1 c
    refine p_push (cc3 c174_130) ?_
    exact h
  · have h := h.2 c
    refine p_push (cc3 c174_126) ?_
    refine p_goto (cc3 c174_127) ?_
    exact h
theorem B174_131 {ev : xV} {Q : Option Value → xM → Prop} {m : Nat} {Φ : (Nat → Nat → Int32) → xM} (hΦ : MLaw m Φ) {μ : Nat → Nat → Int32} {s0 : Int32} (h : ((s0 < 0) → (∃ r μ', ev 175 [.ref m, .long 17376357] (Φ (U (U μ 0 48 s0) 0 47 3)) (some (.int r)) (Φ μ') ∧ wpE (xT 174) ev Q (155, [(0, .ref m)], [.int r, .ref m], Φ μ'))) ∧ (¬ (s0 < 0) → Q none (Φ (U μ 0 48 s0)))) : wpE (xT 174) ev Q (131, [(0, .ref m)], [.int s0, .ref m], Φ μ) := by
  refine pm_puti hΦ (cct c174_131 rfl) ?_
  refine p_ald (cc3 c174_134) rfl ?_
  refine pm_geti hΦ (v := s0) (cc3 c174_135) rfl ?_
  refine p_if (cc3 c174_138) (fun c => ?_) (fun c => ?_)
  · have h := h.1 c
    refine p_ald (cc3 c174_142) rfl ?_
    refine p_push (cc3 c174_143) ?_
    refine pm_puti hΦ (cc3 c174_144) ?_
    refine p_ald (cc3 c174_147) rfl ?_
    refine p_ald (cc3 c174_148) rfl ?_
    refine p_push (cc3 c174_149) ?_
    obtain ⟨r, μ', he, h⟩ := h
    exact p_callV (cc3 c174_152) (Nat.le_of_ble_eq_true rfl) rfl rfl (Nat.le_of_ble_eq_true rfl) (ml_kd hΦ) he h
  · have h := h.2 c
    exact p_rv (cc3 c174_141) h
theorem B174_155 {ev : xV} {Q : Option Value → xM → Prop} {m : Nat} {Φ : (Nat → Nat → Int32) → xM} (hΦ : MLaw m Φ) {μ : Nat → Nat → Int32} {s0 : Int32} (h : ((s0 = 0) → (∃ r μ', ev 175 [.ref m, .long 6452] (Φ μ) (some (.int r)) (Φ μ') ∧ wpE (xT 174) ev Q (169, [(0, .ref m)], [.int r, .ref m], Φ μ'))) ∧ (¬ (s0 = 0) → wpE (xT 174) ev Q (219, [(0, .ref m)], [.int 0, .ref m], Φ μ))) : wpE (xT 174) ev Q (155, [(0, .ref m)], [.int s0, .ref m], Φ μ) := by
  refine p_if (cc3 c174_155) (fun c => ?_) (fun c => ?_)
  · have h := h.1 c
    refine p_ald (cc3 c174_162) rfl ?_
    refine p_push (cc3 c174_163) ?_
    obtain ⟨r, μ', he, h⟩ := h
    exact p_callV (cc3 c174_166) (Nat.le_of_ble_eq_true rfl) rfl rfl (Nat.le_of_ble_eq_true rfl) (ml_kd hΦ) he h
  · have h := h.2 c
    refine p_push (cc3 c174_158) ?_
    refine p_goto (cc3 c174_159) ?_
    exact h
theorem B174_169 {ev : xV} {Q : Option Value → xM → Prop} {m : Nat} {Φ : (Nat → Nat → Int32) → xM} (hΦ : MLaw m Φ) {μ : Nat → Nat → Int32} {s0 : Int32} (h : ((s0 = 0) → (∃ r μ', ev 175 [.ref m, .long 498] (Φ μ) (some (.int r)) (Φ μ') ∧ wpE (xT 174) ev Q (183, [(0, .ref m)], [.int r, .ref m], Φ μ'))) ∧ (¬ (s0 = 0) → wpE (xT 174) ev Q (219, [(0, .ref m)], [.int 1, .ref m], Φ μ))) : wpE (xT 174) ev Q (169, [(0, .ref m)], [.int s0, .ref m], Φ μ) := by
  refine p_if (cc3 c174_169) (fun c => ?_) (fun c => ?_)
  · have h := h.1 c
    refine p_ald (cc3 c174_176) rfl ?_
    refine p_push (cc3 c174_177) ?_
    obtain ⟨r, μ', he, h⟩ := h
    exact p_callV (cc3 c174_180) (Nat.le_of_ble_eq_true rfl) rfl rfl (Nat.le_of_ble_eq_true rfl) (ml_kd hΦ) he h
  · have h := h.2 c
    refine p_push (cc3 c174_172) ?_
    refine p_goto (cc3 c174_173) ?_
    exact h
theorem B174_183 {ev : xV} {Q : Option Value → xM → Prop} {m : Nat} {Φ : (Nat → Nat → Int32) → xM} (hΦ : MLaw m Φ) {μ : Nat → Nat → Int32} {s0 : Int32} (h : ((s0 = 0) → (∃ r μ', ev 175 [.ref m, .long 1476] (Φ μ) (some (.int r)) (Φ μ') ∧ wpE (xT 174) ev Q (197, [(0, .ref m)], [.int r, .ref m], Φ μ'))) ∧ (¬ (s0 = 0) → wpE (xT 174) ev Q (219, [(0, .ref m)], [.int 2, .ref m], Φ μ))) : wpE (xT 174) ev Q (183, [(0, .ref m)], [.int s0, .ref m], Φ μ) := by
  refine p_if (cc3 c174_183) (fun c => ?_) (fun c => ?_)
  · have h := h.1 c
    refine p_ald (cc3 c174_190) rfl ?_
    refine p_push (cc3 c174_191) ?_
    obtain ⟨r, μ', he, h⟩ := h
    exact p_callV (cc3 c174_194) (Nat.le_of_ble_eq_true rfl) rfl rfl (Nat.le_of_ble_eq_true rfl) (ml_kd hΦ) he h
  · have h := h.2 c
    refine p_push (cc3 c174_186) ?_
    refine p_goto (cc3 c174_187) ?_
    exact h
theorem B174_197 {ev : xV} {Q : Option Value → xM → Prop} {m : Nat} {Φ : (Nat → Nat → Int32) → xM} (hΦ : MLaw m Φ) {μ : Nat → Nat → Int32} {s0 : Int32} (h : ((s0 = 0) → (∃ r μ', ev 175 [.ref m, .long 14836] (Φ μ) (some (.int r)) (Φ μ') ∧ wpE (xT 174) ev Q (211, [(0, .ref m)], [.int r, .ref m], Φ μ'))) ∧ (¬ (s0 = 0) → wpE (xT 174) ev Q (219, [(0, .ref m)], [.int 3, .ref m], Φ μ))) : wpE (xT 174) ev Q (197, [(0, .ref m)], [.int s0, .ref m], Φ μ) := by
  refine p_if (cc3 c174_197) (fun c => ?_) (fun c => ?_)
  · have h := h.1 c
    refine p_ald (cc3 c174_204) rfl ?_
    refine p_push (cc3 c174_205) ?_
    obtain ⟨r, μ', he, h⟩ := h
    exact p_callV (cc3 c174_208) (Nat.le_of_ble_eq_true rfl) rfl rfl (Nat.le_of_ble_eq_true rfl) (ml_kd hΦ) he h
  · have h := h.2 c
    refine p_push (cc3 c174_200) ?_
    refine p_goto (cc3 c174_201) ?_
    exact h
theorem B174_211 {ev : xV} {Q : Option Value → xM → Prop} {m : Nat} {Φ : (Nat → Nat → Int32) → xM} (hΦ : MLaw m Φ) {μ : Nat → Nat → Int32} {s0 : Int32} (h : ((s0 = 0) → wpE (xT 174) ev Q (219, [(0, .ref m)], [.int ((-1)), .ref m], Φ μ)) ∧ (¬ (s0 = 0) → wpE (xT 174) ev Q (219, [(0, .ref m)], [.int 4, .ref m], Φ μ))) : wpE (xT 174) ev Q (211, [(0, .ref m)], [.int s0, .ref m], Φ μ) := by
  refine p_if (cc3 c174_211) (fun c => ?_) (fun c => ?_)
  · have h := h.1 c
    refine p_push (cc3 c174_218) ?_
    exact h
  · have h := h.2 c
    refine p_push (cc3 c174_214) ?_
    refine p_goto (cc3 c174_215) ?_
    exact h
theorem B174_219 {ev : xV} {Q : Option Value → xM → Prop} {m : Nat} {Φ : (Nat → Nat → Int32) → xM} (hΦ : MLaw m Φ) {μ : Nat → Nat → Int32} {s0 : Int32} (h : ((0 ≤ s0) → Q none (Φ (U μ 0 48 s0))) ∧ (¬ (0 ≤ s0) → Q none (Φ (U (U μ 0 48 s0) 0 47 5)))) : wpE (xT 174) ev Q (219, [(0, .ref m)], [.int s0, .ref m], Φ μ) := by
  refine pm_puti hΦ (cct c174_219 rfl) ?_
  refine p_ald (cc3 c174_222) rfl ?_
  refine pm_geti hΦ (v := s0) (cc3 c174_223) rfl ?_
  refine p_if (cc3 c174_226) (fun c => ?_) (fun c => ?_)
  · have h := h.1 c
    refine p_lc (ls' := []) c174_234 rfl rfl ?_
    exact p_rv (cct c174_234 rfl) h
  · have h := h.2 c
    refine p_ald (cc3 c174_229) rfl ?_
    refine p_push (cc3 c174_230) ?_
    refine pm_puti hΦ (cc3 c174_231) ?_
    refine p_lc (ls' := []) c174_234 rfl rfl ?_
    exact p_rv (cct c174_234 rfl) h
theorem B175_0 {ev : xV} {Q : Option Value → xM → Prop} {m : Nat} {Φ : (Nat → Nat → Int32) → xM} (hΦ : MLaw m Φ) {μ : Nat → Nat → Int32} {w1 : Int64} (h : wpE (xT 175) ev Q (10, [(0, .ref m), (3, .long w1), (5, .int ((μ 0 46) - 1))], [], Φ μ)) : wpE (xT 175) ev Q (0, [(0, .ref m), (1, .long w1)], [], Φ μ) := by
  refine p_lld (cc3 c175_0) rfl ?_
  refine p_lst (ls' := [(3, .long w1), (0, .ref m), (1, .long w1)]) (cc3 c175_1) (by decide) rfl ?_
  refine p_ald (cc3 c175_2) rfl ?_
  refine pm_geti hΦ (v := μ 0 46) (cc3 c175_3) rfl ?_
  refine p_push (cc3 c175_6) ?_
  refine p_bin (cc3 c175_7) ?_
  refine p_ist (ls' := [(5, .int ((μ 0 46) - 1)), (3, .long w1), (0, .ref m), (1, .long w1)]) (cc3 c175_8) (by decide) rfl ?_
  exact p_lc (ls' := [(0, .ref m), (3, .long w1), (5, .int ((μ 0 46) - 1))]) c175_10 rfl rfl h
theorem B175_10 {ev : xV} {Q : Option Value → xM → Prop} {m : Nat} {Φ : (Nat → Nat → Int32) → xM} (hΦ : MLaw m Φ) {μ : Nat → Nat → Int32} {x5 : Int32} {w3 : Int64} (h : ((x5 < (μ 0 49)) → wpE (xT 175) ev Q (55, [(0, .ref m), (3, .long w3), (5, .int x5)], [], Φ μ)) ∧ (¬ (x5 < (μ 0 49)) → (((lg_cmp w3 0) ≤ 0) → wpE (xT 175) ev Q (55, [(0, .ref m), (3, .long w3), (5, .int x5)], [], Φ μ)) ∧ (¬ ((lg_cmp w3 0) ≤ 0) → vp_in x5 160 ∧ (((lg_cmp (w3 &&& 31) (((μ 1 x5.toNatClampNeg) - 96).toInt64)) = 0) → wpE (xT 175) ev Q (10, [(0, .ref m), (3, .long (w3 >>> ((5 : Int32).toInt64 &&& 63))), (5, .int (x5 + (-1)))], [], Φ μ)) ∧ (¬ ((lg_cmp (w3 &&& 31) (((μ 1 x5.toNatClampNeg) - 96).toInt64)) = 0) → wpE (xT 175) ev Q (55, [(0, .ref m), (3, .long w3), (5, .int x5)], [], Φ μ))))) : wpE (xT 175) ev Q (10, [(0, .ref m), (3, .long w3), (5, .int x5)], [], Φ μ) := by
  refine p_ild (cct c175_10 rfl) rfl ?_
  refine p_ald (cc3 c175_12) rfl ?_
  refine pm_geti hΦ (v := μ 0 49) (cc3 c175_13) rfl ?_
  refine p_icmp (cc3 c175_16) (fun c => ?_) (fun c => ?_)
  · have h := h.1 c
    exact h
  · have h := h.2 c
    refine p_lld (cc3 c175_19) rfl ?_
    refine p_push (cc3 c175_20) ?_
    refine p_lcmp (cc3 c175_21) ?_
    refine p_if (cc3 c175_22) (fun c => ?_) (fun c => ?_)
    · have h := h.1 c
      exact h
    · have h := h.2 c
      refine p_lld (cc3 c175_25) rfl ?_
      refine p_push (cc3 c175_26) ?_
      refine p_binL (cc3 c175_29) ?_
      refine p_ald (cc3 c175_30) rfl ?_
      refine pm_getp hΦ (cc3 c175_31) (c := 1) rfl (by decide) ?_
      refine p_ild (cc3 c175_34) rfl ?_
      obtain ⟨g, h⟩ := h
      refine pm_aldi hΦ (c := 1) (n := 160) (cc3 c175_36) (by decide) rfl rfl rfl g rfl ?_
      refine p_push (cc3 c175_37) ?_
      refine p_bin (cc3 c175_39) ?_
      refine p_i2l (cc3 c175_40) ?_
      refine p_lcmp (cc3 c175_41) ?_
      refine p_if (cc3 c175_42) (fun c => ?_) (fun c => ?_)
      · have h := h.1 c
        refine p_lld (cc3 c175_45) rfl ?_
        refine p_push (cc3 c175_46) ?_
        refine p_shL (cc3 c175_47) ?_
        refine p_lst (ls' := [(3, .long (w3 >>> ((5 : Int32).toInt64 &&& 63))), (0, .ref m), (5, .int x5)]) (cc3 c175_48) (by decide) rfl ?_
        refine p_iinc (y := x5 + (-1)) (ls' := [(5, .int (x5 + (-1))), (3, .long (w3 >>> ((5 : Int32).toInt64 &&& 63))), (0, .ref m)]) (cc3 c175_49) (by decide) rfl rfl rfl ?_
        refine p_goto (cc3 c175_52) ?_
        exact p_lc (ls' := [(0, .ref m), (3, .long (w3 >>> ((5 : Int32).toInt64 &&& 63))), (5, .int (x5 + (-1)))]) c175_10 rfl rfl h
      · have h := h.2 c
        exact h
theorem B175_55 {ev : xV} {Q : Option Value → xM → Prop} {m : Nat} {Φ : (Nat → Nat → Int32) → xM} (hΦ : MLaw m Φ) {μ : Nat → Nat → Int32} {x5 : Int32} {w3 : Int64} (h : (((lg_cmp w3 0) = 0) → ((x5 = ((μ 0 49) - 1)) → Q (some (.int 1)) (Φ μ)) ∧ (¬ (x5 = ((μ 0 49) - 1)) → Q (some (.int 0)) (Φ μ))) ∧ (¬ ((lg_cmp w3 0) = 0) → Q (some (.int 0)) (Φ μ))) : wpE (xT 175) ev Q (55, [(0, .ref m), (3, .long w3), (5, .int x5)], [], Φ μ) := by
  refine p_lld (cct c175_55 rfl) rfl ?_
  refine p_push (cc3 c175_56) ?_
  refine p_lcmp (cc3 c175_57) ?_
  refine p_if (cc3 c175_58) (fun c => ?_) (fun c => ?_)
  · have h := h.1 c
    refine p_ild (cc3 c175_61) rfl ?_
    refine p_ald (cc3 c175_63) rfl ?_
    refine pm_geti hΦ (v := μ 0 49) (cc3 c175_64) rfl ?_
    refine p_push (cc3 c175_67) ?_
    refine p_bin (cc3 c175_68) ?_
    refine p_icmp (cc3 c175_69) (fun c => ?_) (fun c => ?_)
    · have h := h.1 c
      refine p_push (cc3 c175_72) ?_
      refine p_goto (cc3 c175_73) ?_
      refine p_lc (ls' := []) c175_77 rfl rfl ?_
      exact p_ri (cct c175_77 rfl) (by decide) h
    · have h := h.2 c
      refine p_lc (ls' := []) c175_76 rfl rfl ?_
      refine p_push (cct c175_76 rfl) ?_
      exact p_ri (cct c175_77 rfl) (by decide) h
  · have h := h.2 c
    refine p_lc (ls' := []) c175_76 rfl rfl ?_
    refine p_push (cct c175_76 rfl) ?_
    exact p_ri (cct c175_77 rfl) (by decide) h
theorem B176_0 {ev : xV} {Q : Option Value → xM → Prop} {m : Nat} {Φ : (Nat → Nat → Int32) → xM} (hΦ : MLaw m Φ) {μ : Nat → Nat → Int32} {x1 : Int32} (h : ((x1 < 48) → Q (some (.int 0)) (Φ μ)) ∧ (¬ (x1 < 48) → ((57 < x1) → Q (some (.int 0)) (Φ μ)) ∧ (¬ (57 < x1) → Q (some (.int 1)) (Φ μ)))) : wpE (xT 176) ev Q (0, [(0, .ref m), (1, .int x1)], [], Φ μ) := by
  refine p_ild (cc3 c176_0) rfl ?_
  refine p_push (cc3 c176_1) ?_
  refine p_icmp (cc3 c176_3) (fun c => ?_) (fun c => ?_)
  · have h := h.1 c
    refine p_lc (ls' := []) c176_16 rfl rfl ?_
    refine p_push (cct c176_16 rfl) ?_
    exact p_ri (cct c176_17 rfl) (by decide) h
  · have h := h.2 c
    refine p_ild (cc3 c176_6) rfl ?_
    refine p_push (cc3 c176_7) ?_
    refine p_icmp (cc3 c176_9) (fun c => ?_) (fun c => ?_)
    · have h := h.1 c
      refine p_lc (ls' := []) c176_16 rfl rfl ?_
      refine p_push (cct c176_16 rfl) ?_
      exact p_ri (cct c176_17 rfl) (by decide) h
    · have h := h.2 c
      refine p_push (cc3 c176_12) ?_
      refine p_goto (cc3 c176_13) ?_
      refine p_lc (ls' := []) c176_17 rfl rfl ?_
      exact p_ri (cct c176_17 rfl) (by decide) h
theorem B177_0 {ev : xV} {Q : Option Value → xM → Prop} {m : Nat} {Φ : (Nat → Nat → Int32) → xM} (hΦ : MLaw m Φ) {μ : Nat → Nat → Int32} {x1 : Int32} (h : (((μ 0 47) = 3) → (((μ 0 48) = x1) → Q (some (.int 1)) (Φ μ)) ∧ (¬ ((μ 0 48) = x1) → Q (some (.int 0)) (Φ μ))) ∧ (¬ ((μ 0 47) = 3) → Q (some (.int 0)) (Φ μ))) : wpE (xT 177) ev Q (0, [(0, .ref m), (1, .int x1)], [], Φ μ) := by
  refine p_ald (cc3 c177_0) rfl ?_
  refine pm_geti hΦ (v := μ 0 47) (cc3 c177_1) rfl ?_
  refine p_push (cc3 c177_4) ?_
  refine p_icmp (cc3 c177_5) (fun c => ?_) (fun c => ?_)
  · have h := h.1 c
    refine p_ald (cc3 c177_8) rfl ?_
    refine pm_geti hΦ (v := μ 0 48) (cc3 c177_9) rfl ?_
    refine p_ild (cc3 c177_12) rfl ?_
    refine p_icmp (cc3 c177_13) (fun c => ?_) (fun c => ?_)
    · have h := h.1 c
      refine p_push (cc3 c177_16) ?_
      refine p_goto (cc3 c177_17) ?_
      refine p_lc (ls' := []) c177_21 rfl rfl ?_
      exact p_ri (cct c177_21 rfl) (by decide) h
    · have h := h.2 c
      refine p_lc (ls' := []) c177_20 rfl rfl ?_
      refine p_push (cct c177_20 rfl) ?_
      exact p_ri (cct c177_21 rfl) (by decide) h
  · have h := h.2 c
    refine p_lc (ls' := []) c177_20 rfl rfl ?_
    refine p_push (cct c177_20 rfl) ?_
    exact p_ri (cct c177_21 rfl) (by decide) h
theorem B178_0 {ev : xV} {Q : Option Value → xM → Prop} {m : Nat} {Φ : (Nat → Nat → Int32) → xM} (hΦ : MLaw m Φ) {μ : Nat → Nat → Int32} (h : vp_in (μ 0 55) 12 ∧ wpE (xT 178) ev Q (36, [(0, .ref m), (1, .int 1), (2, .int 1)], [], Φ (U (U (U (U (U μ 0 52 0) 0 53 0) 0 54 0) 33 ((μ 0 55).toNatClampNeg) 0) 36 0 (vp_nar .boolean 0)))) : wpE (xT 178) ev Q (0, [(0, .ref m)], [], Φ μ) := by
  refine p_ald (cc3 c178_0) rfl ?_
  refine p_push (cc3 c178_1) ?_
  refine pm_puti hΦ (cc3 c178_2) ?_
  refine p_ald (cc3 c178_5) rfl ?_
  refine p_push (cc3 c178_6) ?_
  refine pm_puti hΦ (cc3 c178_7) ?_
  refine p_ald (cc3 c178_10) rfl ?_
  refine p_push (cc3 c178_11) ?_
  refine pm_puti hΦ (cc3 c178_12) ?_
  refine p_ald (cc3 c178_15) rfl ?_
  refine pm_getp hΦ (cc3 c178_16) (c := 33) rfl (by decide) ?_
  refine p_ald (cc3 c178_19) rfl ?_
  refine pm_geti hΦ (v := μ 0 55) (cc3 c178_20) rfl ?_
  refine p_push (cc3 c178_23) ?_
  obtain ⟨g, h⟩ := h
  refine pm_asti hΦ (c := 33) (n := 12) (cc3 c178_24) (by decide) rfl rfl rfl g ?_
  refine p_ald (cc3 c178_25) rfl ?_
  refine pm_getp hΦ (cc3 c178_26) (c := 36) rfl (by decide) ?_
  refine p_push (cc3 c178_29) ?_
  refine p_push (cc3 c178_30) ?_
  refine pm_asti hΦ (c := 36) (n := 7) (k9 := 0) (cc3 c178_31) (by decide) rfl rfl (by decide) (by unfold vp_in; decide) ?_
  refine p_push (cc3 c178_32) ?_
  refine p_ist (ls' := [(1, .int 1), (0, .ref m)]) (cc3 c178_33) (by decide) rfl ?_
  refine p_push (cc3 c178_34) ?_
  refine p_ist (ls' := [(2, .int 1), (1, .int 1), (0, .ref m)]) (cc3 c178_35) (by decide) rfl ?_
  exact p_lc (ls' := [(0, .ref m), (1, .int 1), (2, .int 1)]) c178_36 rfl rfl h
theorem B178_36 {ev : xV} {Q : Option Value → xM → Prop} {m : Nat} {Φ : (Nat → Nat → Int32) → xM} (hΦ : MLaw m Φ) {μ : Nat → Nat → Int32} {x1 x2 : Int32} (h : ((x1 = 0) → (∃ r μ', ev 180 [.ref m, .int 59] (Φ μ) (some (.int r)) (Φ μ') ∧ wpE (xT 178) ev Q (175, [(0, .ref m), (1, .int x1), (2, .int x2)], [.int r], Φ μ'))) ∧ (¬ (x1 = 0) → (∃ r μ', ev 179 [.ref m, .int x2] (Φ μ) (some (.int r)) (Φ μ') ∧ wpE (xT 178) ev Q (45, [(0, .ref m), (1, .int x1), (2, .int x2)], [.int r], Φ μ')))) : wpE (xT 178) ev Q (36, [(0, .ref m), (1, .int x1), (2, .int x2)], [], Φ μ) := by
  refine p_ild (cct c178_36 rfl) rfl ?_
  refine p_if (cc3 c178_37) (fun c => ?_) (fun c => ?_)
  · have h := h.1 c
    refine p_ald (cc3 c178_169) rfl ?_
    refine p_push (cc3 c178_170) ?_
    obtain ⟨r, μ', he, h⟩ := h
    exact p_callV (cc3 c178_172) (Nat.le_of_ble_eq_true rfl) rfl rfl (Nat.le_of_ble_eq_true rfl) (ml_kd hΦ) he h
  · have h := h.2 c
    refine p_ald (cc3 c178_40) rfl ?_
    refine p_ild (cc3 c178_41) rfl ?_
    obtain ⟨r, μ', he, h⟩ := h
    exact p_callV (cc3 c178_42) (Nat.le_of_ble_eq_true rfl) rfl rfl (Nat.le_of_ble_eq_true rfl) (ml_kd hΦ) he h
theorem B178_45 {ev : xV} {Q : Option Value → xM → Prop} {m : Nat} {Φ : (Nat → Nat → Int32) → xM} (hΦ : MLaw m Φ) {μ : Nat → Nat → Int32} {x1 x2 s0 : Int32} (h : ((s0 = 0) → Q (some (.int 0)) (Φ μ)) ∧ (¬ (s0 = 0) → (∃ r μ', ev 177 [.ref m, .int 4] (Φ μ) (some (.int r)) (Φ μ') ∧ wpE (xT 178) ev Q (55, [(0, .ref m), (1, .int x1), (2, .int x2)], [.int r], Φ μ')))) : wpE (xT 178) ev Q (45, [(0, .ref m), (1, .int x1), (2, .int x2)], [.int s0], Φ μ) := by
  refine p_if (cc3 c178_45) (fun c => ?_) (fun c => ?_)
  · have h := h.1 c
    refine p_push (cc3 c178_48) ?_
    exact p_ri (cc3 c178_49) (by decide) h
  · have h := h.2 c
    refine p_ald (cc3 c178_50) rfl ?_
    refine p_push (cc3 c178_51) ?_
    obtain ⟨r, μ', he, h⟩ := h
    exact p_callV (cc3 c178_52) (Nat.le_of_ble_eq_true rfl) rfl rfl (Nat.le_of_ble_eq_true rfl) (ml_kd hΦ) he h
theorem B178_55 {ev : xV} {Q : Option Value → xM → Prop} {m : Nat} {Φ : (Nat → Nat → Int32) → xM} (hΦ : MLaw m Φ) {μ : Nat → Nat → Int32} {x1 x2 s0 : Int32} (h : ((s0 = 0) → (∃ r μ', ev 180 [.ref m, .int 45] (Φ μ) (some (.int r)) (Φ μ') ∧ wpE (xT 178) ev Q (73, [(0, .ref m), (1, .int x1), (2, .int x2)], [.int r], Φ μ'))) ∧ (¬ (s0 = 0) → (∃ μ', ev 181 [.ref m, .int ((-3))] (Φ μ) none (Φ μ') ∧ wpE (xT 178) ev Q (64, [(0, .ref m), (1, .int x1), (2, .int x2)], [], Φ μ')))) : wpE (xT 178) ev Q (55, [(0, .ref m), (1, .int x1), (2, .int x2)], [.int s0], Φ μ) := by
  refine p_if (cc3 c178_55) (fun c => ?_) (fun c => ?_)
  · have h := h.1 c
    refine p_ald (cc3 c178_67) rfl ?_
    refine p_push (cc3 c178_68) ?_
    obtain ⟨r, μ', he, h⟩ := h
    exact p_callV (cc3 c178_70) (Nat.le_of_ble_eq_true rfl) rfl rfl (Nat.le_of_ble_eq_true rfl) (ml_kd hΦ) he h
  · have h := h.2 c
    refine p_ald (cc3 c178_58) rfl ?_
    refine p_push (cc3 c178_59) ?_
    obtain ⟨μ', he, h⟩ := h
    exact p_callV (cc3 c178_61) (Nat.le_of_ble_eq_true rfl) rfl rfl (Nat.le_of_ble_eq_true rfl) (ml_kd hΦ) he h
theorem B178_64 {ev : xV} {Q : Option Value → xM → Prop} {m : Nat} {Φ : (Nat → Nat → Int32) → xM} (hΦ : MLaw m Φ) {μ : Nat → Nat → Int32} {x1 x2 : Int32} (h : (∃ μ', ev 172 [.ref m] (Φ μ) none (Φ μ') ∧ wpE (xT 178) ev Q (166, [(0, .ref m), (1, .int x1), (2, .int x2)], [], Φ μ'))) : wpE (xT 178) ev Q (64, [(0, .ref m), (1, .int x1), (2, .int x2)], [], Φ μ) := by
  refine p_goto (cc3 c178_64) ?_
  refine p_ald (cct c178_162 rfl) rfl ?_
  obtain ⟨μ', he, h⟩ := h
  exact p_callV (cc3 c178_163) (Nat.le_of_ble_eq_true rfl) rfl rfl (Nat.le_of_ble_eq_true rfl) (ml_kd hΦ) he h
theorem B178_73 {ev : xV} {Q : Option Value → xM → Prop} {m : Nat} {Φ : (Nat → Nat → Int32) → xM} (hΦ : MLaw m Φ) {μ : Nat → Nat → Int32} {x1 x2 s0 : Int32} (h : ((s0 = 0) → (∃ r μ', ev 180 [.ref m, .int 40] (Φ μ) (some (.int r)) (Φ μ') ∧ wpE (xT 178) ev Q (93, [(0, .ref m), (1, .int x1), (2, .int x2)], [.int r], Φ μ'))) ∧ (¬ (s0 = 0) → (∃ μ', ev 181 [.ref m, .int ((-9))] (Φ μ) none (Φ μ') ∧ wpE (xT 178) ev Q (82, [(0, .ref m), (1, .int x1), (2, .int x2)], [], Φ μ')))) : wpE (xT 178) ev Q (73, [(0, .ref m), (1, .int x1), (2, .int x2)], [.int s0], Φ μ) := by
  refine p_if (cc3 c178_73) (fun c => ?_) (fun c => ?_)
  · have h := h.1 c
    refine p_ald (cc3 c178_87) rfl ?_
    refine p_push (cc3 c178_88) ?_
    obtain ⟨r, μ', he, h⟩ := h
    exact p_callV (cc3 c178_90) (Nat.le_of_ble_eq_true rfl) rfl rfl (Nat.le_of_ble_eq_true rfl) (ml_kd hΦ) he h
  · have h := h.2 c
    refine p_ald (cc3 c178_76) rfl ?_
    refine p_push (cc3 c178_77) ?_
    obtain ⟨μ', he, h⟩ := h
    exact p_callV (cc3 c178_79) (Nat.le_of_ble_eq_true rfl) rfl rfl (Nat.le_of_ble_eq_true rfl) (ml_kd hΦ) he h
theorem B178_82 {ev : xV} {Q : Option Value → xM → Prop} {m : Nat} {Φ : (Nat → Nat → Int32) → xM} (hΦ : MLaw m Φ) {μ : Nat → Nat → Int32} {x1 x2 : Int32} (h : (∃ μ', ev 172 [.ref m] (Φ μ) none (Φ μ') ∧ wpE (xT 178) ev Q (166, [(0, .ref m), (1, .int x1), (2, .int 0)], [], Φ μ'))) : wpE (xT 178) ev Q (82, [(0, .ref m), (1, .int x1), (2, .int x2)], [], Φ μ) := by
  refine p_push (cc3 c178_82) ?_
  refine p_ist (ls' := [(2, .int 0), (0, .ref m), (1, .int x1)]) (cc3 c178_83) (by decide) rfl ?_
  refine p_goto (cc3 c178_84) ?_
  refine p_lc (ls' := [(0, .ref m), (1, .int x1), (2, .int 0)]) c178_162 rfl rfl ?_
  refine p_ald (cct c178_162 rfl) rfl ?_
  obtain ⟨μ', he, h⟩ := h
  exact p_callV (cc3 c178_163) (Nat.le_of_ble_eq_true rfl) rfl rfl (Nat.le_of_ble_eq_true rfl) (ml_kd hΦ) he h
theorem B178_93 {ev : xV} {Q : Option Value → xM → Prop} {m : Nat} {Φ : (Nat → Nat → Int32) → xM} (hΦ : MLaw m Φ) {μ : Nat → Nat → Int32} {x1 x2 s0 : Int32} (h : ((s0 = 0) → (((μ 0 47) = 1) → (∃ μ', ev 182 [.ref m, .int (μ 0 48)] (Φ μ) none (Φ μ') ∧ wpE (xT 178) ev Q (154, [(0, .ref m), (2, .int x2)], [], Φ μ'))) ∧ (¬ ((μ 0 47) = 1) → (∃ μ', ev 182 [.ref m, .int (10000 + (μ 0 48))] (Φ μ) none (Φ μ') ∧ wpE (xT 178) ev Q (154, [(0, .ref m), (2, .int x2)], [], Φ μ')))) ∧ (¬ (s0 = 0) → (∃ μ', ev 181 [.ref m, .int ((-10))] (Φ μ) none (Φ μ') ∧ wpE (xT 178) ev Q (102, [(0, .ref m), (1, .int x1), (2, .int x2)], [], Φ μ')))) : wpE (xT 178) ev Q (93, [(0, .ref m), (1, .int x1), (2, .int x2)], [.int s0], Φ μ) := by
  refine p_if (cc3 c178_93) (fun c => ?_) (fun c => ?_)
  · have h := h.1 c
    refine p_ald (cc3 c178_127) rfl ?_
    refine p_ald (cc3 c178_128) rfl ?_
    refine pm_geti hΦ (v := μ 0 47) (cc3 c178_129) rfl ?_
    refine p_push (cc3 c178_132) ?_
    refine p_icmp (cc3 c178_133) (fun c => ?_) (fun c => ?_)
    · have h := h.1 c
      refine p_ald (cc3 c178_136) rfl ?_
      refine pm_geti hΦ (v := μ 0 48) (cc3 c178_137) rfl ?_
      refine p_goto (cc3 c178_140) ?_
      refine p_lc (ls' := [(0, .ref m), (2, .int x2)]) c178_151 rfl rfl ?_
      obtain ⟨μ', he, h⟩ := h
      exact p_callV (cct c178_151 rfl) (Nat.le_of_ble_eq_true rfl) rfl rfl (Nat.le_of_ble_eq_true rfl) (ml_kd hΦ) he h
    · have h := h.2 c
      refine p_push (cc3 c178_143) ?_
      refine p_ald (cc3 c178_146) rfl ?_
      refine pm_geti hΦ (v := μ 0 48) (cc3 c178_147) rfl ?_
      refine p_bin (cc3 c178_150) ?_
      refine p_lc (ls' := [(0, .ref m), (2, .int x2)]) c178_151 rfl rfl ?_
      obtain ⟨μ', he, h⟩ := h
      exact p_callV (cct c178_151 rfl) (Nat.le_of_ble_eq_true rfl) rfl rfl (Nat.le_of_ble_eq_true rfl) (ml_kd hΦ) he h
  · have h := h.2 c
    refine p_ald (cc3 c178_96) rfl ?_
    refine p_push (cc3 c178_97) ?_
    obtain ⟨μ', he, h⟩ := h
    exact p_callV (cc3 c178_99) (Nat.le_of_ble_eq_true rfl) rfl rfl (Nat.le_of_ble_eq_true rfl) (ml_kd hΦ) he h
theorem B178_102 {ev : xV} {Q : Option Value → xM → Prop} {m : Nat} {Φ : (Nat → Nat → Int32) → xM} (hΦ : MLaw m Φ) {μ : Nat → Nat → Int32} {x1 x2 : Int32} (h : vp_in ((μ 0 53) + 1) 7 ∧ (∃ μ', ev 172 [.ref m] (Φ (U (U μ 0 53 ((μ 0 53) + 1)) 36 (((μ 0 53) + 1).toNatClampNeg) (vp_nar .boolean 0))) none (Φ μ') ∧ wpE (xT 178) ev Q (166, [(0, .ref m), (1, .int x1), (2, .int 1)], [], Φ μ'))) : wpE (xT 178) ev Q (102, [(0, .ref m), (1, .int x1), (2, .int x2)], [], Φ μ) := by
  refine p_ald (cc3 c178_102) rfl ?_
  refine p_dup (cc3 c178_103) rfl ?_
  refine pm_geti hΦ (v := μ 0 53) (cc3 c178_104) rfl ?_
  refine p_push (cc3 c178_107) ?_
  refine p_bin (cc3 c178_108) ?_
  refine pm_puti hΦ (cc3 c178_109) ?_
  refine p_ald (cc3 c178_112) rfl ?_
  refine pm_getp hΦ (cc3 c178_113) (c := 36) rfl (by decide) ?_
  refine p_ald (cc3 c178_116) rfl ?_
  refine pm_geti hΦ (v := (μ 0 53) + 1) (cc3 c178_117) rfl ?_
  refine p_push (cc3 c178_120) ?_
  obtain ⟨g, h⟩ := h
  refine pm_asti hΦ (c := 36) (n := 7) (cc3 c178_121) (by decide) rfl rfl rfl g ?_
  refine p_push (cc3 c178_122) ?_
  refine p_ist (ls' := [(2, .int 1), (0, .ref m), (1, .int x1)]) (cc3 c178_123) (by decide) rfl ?_
  refine p_goto (cc3 c178_124) ?_
  refine p_lc (ls' := [(0, .ref m), (1, .int x1), (2, .int 1)]) c178_162 rfl rfl ?_
  refine p_ald (cct c178_162 rfl) rfl ?_
  obtain ⟨μ', he, h⟩ := h
  exact p_callV (cc3 c178_163) (Nat.le_of_ble_eq_true rfl) rfl rfl (Nat.le_of_ble_eq_true rfl) (ml_kd hΦ) he h
theorem B178_154 {ev : xV} {Q : Option Value → xM → Prop} {m : Nat} {Φ : (Nat → Nat → Int32) → xM} (hΦ : MLaw m Φ) {μ : Nat → Nat → Int32} {x2 : Int32} (h : (∃ μ', ev 183 [.ref m, .int 7] (Φ μ) none (Φ μ') ∧ wpE (xT 178) ev Q (160, [(0, .ref m), (2, .int x2)], [], Φ μ'))) : wpE (xT 178) ev Q (154, [(0, .ref m), (2, .int x2)], [], Φ μ) := by
  refine p_ald (cc3 c178_154) rfl ?_
  refine p_push (cc3 c178_155) ?_
  obtain ⟨μ', he, h⟩ := h
  exact p_callV (cc3 c178_157) (Nat.le_of_ble_eq_true rfl) rfl rfl (Nat.le_of_ble_eq_true rfl) (ml_kd hΦ) he h
theorem B178_160 {ev : xV} {Q : Option Value → xM → Prop} {m : Nat} {Φ : (Nat → Nat → Int32) → xM} (hΦ : MLaw m Φ) {μ : Nat → Nat → Int32} {x2 : Int32} (h : (∃ μ', ev 172 [.ref m] (Φ μ) none (Φ μ') ∧ wpE (xT 178) ev Q (166, [(0, .ref m), (1, .int 0), (2, .int x2)], [], Φ μ'))) : wpE (xT 178) ev Q (160, [(0, .ref m), (2, .int x2)], [], Φ μ) := by
  refine p_push (cc3 c178_160) ?_
  refine p_ist (ls' := [(1, .int 0), (0, .ref m), (2, .int x2)]) (cc3 c178_161) (by decide) rfl ?_
  refine p_lc (ls' := [(0, .ref m), (1, .int 0), (2, .int x2)]) c178_162 rfl rfl ?_
  refine p_ald (cct c178_162 rfl) rfl ?_
  obtain ⟨μ', he, h⟩ := h
  exact p_callV (cc3 c178_163) (Nat.le_of_ble_eq_true rfl) rfl rfl (Nat.le_of_ble_eq_true rfl) (ml_kd hΦ) he h
theorem B178_166 {ev : xV} {Q : Option Value → xM → Prop} {m : Nat} {Φ : (Nat → Nat → Int32) → xM} (hΦ : MLaw m Φ) {μ : Nat → Nat → Int32} {x1 x2 : Int32} (h : wpE (xT 178) ev Q (36, [(0, .ref m), (1, .int x1), (2, .int x2)], [], Φ μ)) : wpE (xT 178) ev Q (166, [(0, .ref m), (1, .int x1), (2, .int x2)], [], Φ μ) := by
  refine p_goto (cc3 c178_166) ?_
  exact h
theorem B178_175 {ev : xV} {Q : Option Value → xM → Prop} {m : Nat} {Φ : (Nat → Nat → Int32) → xM} (hΦ : MLaw m Φ) {μ : Nat → Nat → Int32} {x1 x2 s0 : Int32} (h : ((s0 = 0) → (∃ r μ', ev 180 [.ref m, .int 41] (Φ μ) (some (.int r)) (Φ μ') ∧ wpE (xT 178) ev Q (202, [(0, .ref m), (1, .int x1), (2, .int x2)], [.int r], Φ μ'))) ∧ (¬ (s0 = 0) → (∃ μ', ev 183 [.ref m, .int 1] (Φ μ) none (Φ μ') ∧ wpE (xT 178) ev Q (183, [(0, .ref m), (1, .int x1), (2, .int x2)], [], Φ μ')))) : wpE (xT 178) ev Q (175, [(0, .ref m), (1, .int x1), (2, .int x2)], [.int s0], Φ μ) := by
  refine p_if (cc3 c178_175) (fun c => ?_) (fun c => ?_)
  · have h := h.1 c
    refine p_ald (cc3 c178_196) rfl ?_
    refine p_push (cc3 c178_197) ?_
    obtain ⟨r, μ', he, h⟩ := h
    exact p_callV (cc3 c178_199) (Nat.le_of_ble_eq_true rfl) rfl rfl (Nat.le_of_ble_eq_true rfl) (ml_kd hΦ) he h
  · have h := h.2 c
    refine p_ald (cc3 c178_178) rfl ?_
    refine p_push (cc3 c178_179) ?_
    obtain ⟨μ', he, h⟩ := h
    exact p_callV (cc3 c178_180) (Nat.le_of_ble_eq_true rfl) rfl rfl (Nat.le_of_ble_eq_true rfl) (ml_kd hΦ) he h
theorem B178_183 {ev : xV} {Q : Option Value → xM → Prop} {m : Nat} {Φ : (Nat → Nat → Int32) → xM} (hΦ : MLaw m Φ) {μ : Nat → Nat → Int32} {x1 x2 : Int32} (h : (((μ 0 53) = 0) → Q (some (.int 1)) (Φ μ)) ∧ (¬ ((μ 0 53) = 0) → Q (some (.int 0)) (Φ μ))) : wpE (xT 178) ev Q (183, [(0, .ref m), (1, .int x1), (2, .int x2)], [], Φ μ) := by
  refine p_ald (cc3 c178_183) rfl ?_
  refine pm_geti hΦ (v := μ 0 53) (cc3 c178_184) rfl ?_
  refine p_if (cc3 c178_187) (fun c => ?_) (fun c => ?_)
  · have h := h.1 c
    refine p_push (cc3 c178_190) ?_
    refine p_goto (cc3 c178_191) ?_
    refine p_lc (ls' := []) c178_195 rfl rfl ?_
    exact p_ri (cct c178_195 rfl) (by decide) h
  · have h := h.2 c
    refine p_push (cc3 c178_194) ?_
    refine p_lc (ls' := []) c178_195 rfl rfl ?_
    exact p_ri (cct c178_195 rfl) (by decide) h
theorem B178_202 {ev : xV} {Q : Option Value → xM → Prop} {m : Nat} {Φ : (Nat → Nat → Int32) → xM} (hΦ : MLaw m Φ) {μ : Nat → Nat → Int32} {x1 x2 s0 : Int32} (h : ((s0 = 0) → (∃ r μ', ev 185 [.ref m] (Φ μ) (some (.int r)) (Φ μ') ∧ wpE (xT 178) ev Q (266, [(0, .ref m), (1, .int x1), (2, .int x2)], [.int r], Φ μ'))) ∧ (¬ (s0 = 0) → (((μ 0 53) = 0) → Q (some (.int 0)) (Φ μ)) ∧ (¬ ((μ 0 53) = 0) → (∃ μ', ev 183 [.ref m, .int 1] (Φ μ) none (Φ μ') ∧ wpE (xT 178) ev Q (219, [(0, .ref m), (1, .int x1), (2, .int x2)], [], Φ μ'))))) : wpE (xT 178) ev Q (202, [(0, .ref m), (1, .int x1), (2, .int x2)], [.int s0], Φ μ) := by
  refine p_if (cc3 c178_202) (fun c => ?_) (fun c => ?_)
  · have h := h.1 c
    refine p_ald (cc3 c178_262) rfl ?_
    obtain ⟨r, μ', he, h⟩ := h
    exact p_callV (cc3 c178_263) (Nat.le_of_ble_eq_true rfl) rfl rfl (Nat.le_of_ble_eq_true rfl) (ml_kd hΦ) he h
  · have h := h.2 c
    refine p_ald (cc3 c178_205) rfl ?_
    refine pm_geti hΦ (v := μ 0 53) (cc3 c178_206) rfl ?_
    refine p_if (cc3 c178_209) (fun c => ?_) (fun c => ?_)
    · have h := h.1 c
      refine p_push (cc3 c178_212) ?_
      exact p_ri (cc3 c178_213) (by decide) h
    · have h := h.2 c
      refine p_ald (cc3 c178_214) rfl ?_
      refine p_push (cc3 c178_215) ?_
      obtain ⟨μ', he, h⟩ := h
      exact p_callV (cc3 c178_216) (Nat.le_of_ble_eq_true rfl) rfl rfl (Nat.le_of_ble_eq_true rfl) (ml_kd hΦ) he h
theorem B178_219 {ev : xV} {Q : Option Value → xM → Prop} {m : Nat} {Φ : (Nat → Nat → Int32) → xM} (hΦ : MLaw m Φ) {μ : Nat → Nat → Int32} {x1 x2 : Int32} (h : (∃ μ', ev 183 [.ref m, .int 7] (Φ (U (U (U μ 0 52 ((μ 0 52) - 1)) 0 54 ((μ 0 54) - 1)) 0 53 ((μ 0 53) - 1))) none (Φ μ') ∧ wpE (xT 178) ev Q (255, [(0, .ref m), (1, .int x1), (2, .int x2)], [], Φ μ'))) : wpE (xT 178) ev Q (219, [(0, .ref m), (1, .int x1), (2, .int x2)], [], Φ μ) := by
  refine p_ald (cc3 c178_219) rfl ?_
  refine p_dup (cc3 c178_220) rfl ?_
  refine pm_geti hΦ (v := μ 0 52) (cc3 c178_221) rfl ?_
  refine p_push (cc3 c178_224) ?_
  refine p_bin (cc3 c178_225) ?_
  refine pm_puti hΦ (cc3 c178_226) ?_
  refine p_ald (cc3 c178_229) rfl ?_
  refine p_dup (cc3 c178_230) rfl ?_
  refine pm_geti hΦ (v := μ 0 54) (cc3 c178_231) rfl ?_
  refine p_push (cc3 c178_234) ?_
  refine p_bin (cc3 c178_235) ?_
  refine pm_puti hΦ (cc3 c178_236) ?_
  refine p_ald (cc3 c178_239) rfl ?_
  refine p_dup (cc3 c178_240) rfl ?_
  refine pm_geti hΦ (v := μ 0 53) (cc3 c178_241) rfl ?_
  refine p_push (cc3 c178_244) ?_
  refine p_bin (cc3 c178_245) ?_
  refine pm_puti hΦ (cc3 c178_246) ?_
  refine p_ald (cc3 c178_249) rfl ?_
  refine p_push (cc3 c178_250) ?_
  obtain ⟨μ', he, h⟩ := h
  exact p_callV (cc3 c178_252) (Nat.le_of_ble_eq_true rfl) rfl rfl (Nat.le_of_ble_eq_true rfl) (ml_kd hΦ) he h
theorem B178_255 {ev : xV} {Q : Option Value → xM → Prop} {m : Nat} {Φ : (Nat → Nat → Int32) → xM} (hΦ : MLaw m Φ) {μ : Nat → Nat → Int32} {x1 x2 : Int32} (h : (∃ μ', ev 172 [.ref m] (Φ μ) none (Φ μ') ∧ wpE (xT 178) ev Q (259, [(0, .ref m), (1, .int x1), (2, .int x2)], [], Φ μ'))) : wpE (xT 178) ev Q (255, [(0, .ref m), (1, .int x1), (2, .int x2)], [], Φ μ) := by
  refine p_ald (cc3 c178_255) rfl ?_
  obtain ⟨μ', he, h⟩ := h
  exact p_callV (cc3 c178_256) (Nat.le_of_ble_eq_true rfl) rfl rfl (Nat.le_of_ble_eq_true rfl) (ml_kd hΦ) he h
theorem B178_259 {ev : xV} {Q : Option Value → xM → Prop} {m : Nat} {Φ : (Nat → Nat → Int32) → xM} (hΦ : MLaw m Φ) {μ : Nat → Nat → Int32} {x1 x2 : Int32} (h : wpE (xT 178) ev Q (36, [(0, .ref m), (1, .int x1), (2, .int x2)], [], Φ μ)) : wpE (xT 178) ev Q (259, [(0, .ref m), (1, .int x1), (2, .int x2)], [], Φ μ) := by
  refine p_goto (cc3 c178_259) ?_
  exact h
theorem B178_266 {ev : xV} {Q : Option Value → xM → Prop} {m : Nat} {Φ : (Nat → Nat → Int32) → xM} (hΦ : MLaw m Φ) {μ : Nat → Nat → Int32} {x1 x2 s0 : Int32} (h : ((s0 = 0) → Q (some (.int 0)) (Φ μ)) ∧ (¬ (s0 = 0) → (∃ r μ', ev 184 [.ref m, .int s0] (Φ μ) (some (.int r)) (Φ μ') ∧ wpE (xT 178) ev Q (276, [(3, .int s0), (0, .ref m), (1, .int x1), (2, .int x2)], [.int r], Φ μ')))) : wpE (xT 178) ev Q (266, [(0, .ref m), (1, .int x1), (2, .int x2)], [.int s0], Φ μ) := by
  refine p_ist (ls' := [(3, .int s0), (0, .ref m), (1, .int x1), (2, .int x2)]) (cc3 c178_266) (by decide) rfl ?_
  refine p_ild (cc3 c178_267) rfl ?_
  refine p_if (cc3 c178_268) (fun c => ?_) (fun c => ?_)
  · have h := h.1 c
    refine p_lc (ls' := []) c178_292 rfl rfl ?_
    refine p_push (cct c178_292 rfl) ?_
    exact p_ri (cc3 c178_293) (by decide) h
  · have h := h.2 c
    refine p_ald (cc3 c178_271) rfl ?_
    refine p_ild (cc3 c178_272) rfl ?_
    obtain ⟨r, μ', he, h⟩ := h
    exact p_callV (cc3 c178_273) (Nat.le_of_ble_eq_true rfl) rfl rfl (Nat.le_of_ble_eq_true rfl) (ml_kd hΦ) he h
theorem B178_276 {ev : xV} {Q : Option Value → xM → Prop} {m : Nat} {Φ : (Nat → Nat → Int32) → xM} (hΦ : MLaw m Φ) {μ : Nat → Nat → Int32} {x3 x1 x2 s0 : Int32} (h : ((s0 = 4) → vp_in (μ 0 53) 7 ∧ (((μ 36 (μ 0 53).toNatClampNeg) = 0) → (∃ r μ', ev 184 [.ref m, .int x3] (Φ μ) (some (.int r)) (Φ μ') ∧ wpE (xT 178) ev Q (307, [(0, .ref m), (3, .int x3)], [.int r, .int (μ 0 53), .ref (m + 36)], Φ μ'))) ∧ (¬ ((μ 36 (μ 0 53).toNatClampNeg) = 0) → Q (some (.int 0)) (Φ μ))) ∧ (¬ (s0 = 4) → (∃ r μ', ev 184 [.ref m, .int x3] (Φ μ) (some (.int r)) (Φ μ') ∧ wpE (xT 178) ev Q (307, [(0, .ref m), (3, .int x3)], [.int r, .int (μ 0 53), .ref (m + 36)], Φ μ')))) : wpE (xT 178) ev Q (276, [(3, .int x3), (0, .ref m), (1, .int x1), (2, .int x2)], [.int s0], Φ μ) := by
  refine p_push (cc3 c178_276) ?_
  refine p_icmp (cc3 c178_277) (fun c => ?_) (fun c => ?_)
  · have h := h.1 c
    refine p_ald (cc3 c178_280) rfl ?_
    refine pm_getp hΦ (cc3 c178_281) (c := 36) rfl (by decide) ?_
    refine p_ald (cc3 c178_284) rfl ?_
    refine pm_geti hΦ (v := μ 0 53) (cc3 c178_285) rfl ?_
    obtain ⟨g, h⟩ := h
    refine pm_aldi hΦ (c := 36) (n := 7) (cc3 c178_288) (by decide) rfl rfl rfl g rfl ?_
    refine p_if (cc3 c178_289) (fun c => ?_) (fun c => ?_)
    · have h := h.1 c
      refine p_lc (ls' := [(0, .ref m), (3, .int x3)]) c178_294 rfl rfl ?_
      refine p_ald (cct c178_294 rfl) rfl ?_
      refine pm_getp hΦ (cc3 c178_295) (c := 36) rfl (by decide) ?_
      refine p_ald (cc3 c178_298) rfl ?_
      refine pm_geti hΦ (v := μ 0 53) (cc3 c178_299) rfl ?_
      refine p_ald (cc3 c178_302) rfl ?_
      refine p_ild (cc3 c178_303) rfl ?_
      obtain ⟨r, μ', he, h⟩ := h
      exact p_callV (cc3 c178_304) (Nat.le_of_ble_eq_true rfl) rfl rfl (Nat.le_of_ble_eq_true rfl) (ml_kd hΦ) he h
    · have h := h.2 c
      refine p_lc (ls' := []) c178_292 rfl rfl ?_
      refine p_push (cct c178_292 rfl) ?_
      exact p_ri (cc3 c178_293) (by decide) h
  · have h := h.2 c
    refine p_lc (ls' := [(0, .ref m), (3, .int x3)]) c178_294 rfl rfl ?_
    refine p_ald (cct c178_294 rfl) rfl ?_
    refine pm_getp hΦ (cc3 c178_295) (c := 36) rfl (by decide) ?_
    refine p_ald (cc3 c178_298) rfl ?_
    refine pm_geti hΦ (v := μ 0 53) (cc3 c178_299) rfl ?_
    refine p_ald (cc3 c178_302) rfl ?_
    refine p_ild (cc3 c178_303) rfl ?_
    obtain ⟨r, μ', he, h⟩ := h
    exact p_callV (cc3 c178_304) (Nat.le_of_ble_eq_true rfl) rfl rfl (Nat.le_of_ble_eq_true rfl) (ml_kd hΦ) he h
theorem B178_307 {ev : xV} {Q : Option Value → xM → Prop} {m : Nat} {Φ : (Nat → Nat → Int32) → xM} (hΦ : MLaw m Φ) {μ : Nat → Nat → Int32} {x3 s0 s1 : Int32} (h : ((s0 = 4) → vp_in s1 7 ∧ (∃ r μ', ev 184 [.ref m, .int x3] (Φ (U μ 36 s1.toNatClampNeg (vp_nar .boolean 1))) (some (.int r)) (Φ μ') ∧ wpE (xT 178) ev Q (344, [(0, .ref m), (3, .int x3)], [.int r, .ref m], Φ μ'))) ∧ (¬ (s0 = 4) → (∃ r μ', ev 184 [.ref m, .int x3] (Φ μ) (some (.int r)) (Φ μ') ∧ wpE (xT 178) ev Q (316, [(0, .ref m), (3, .int x3)], [.int r, .int s1, .ref (m + 36)], Φ μ')))) : wpE (xT 178) ev Q (307, [(0, .ref m), (3, .int x3)], [.int s0, .int s1, .ref (m + 36)], Φ μ) := by
  refine p_push (cc3 c178_307) ?_
  refine p_icmp (cc3 c178_308) (fun c => ?_) (fun c => ?_)
  · have h := h.1 c
    refine p_push (cct c178_332 rfl) ?_
    refine p_goto (cc3 c178_333) ?_
    obtain ⟨g, h⟩ := h
    refine pm_asti hΦ (c := 36) (n := 7) (cct c178_337 rfl) (by decide) rfl rfl rfl g ?_
    refine p_ald (cc3 c178_338) rfl ?_
    refine p_ald (cc3 c178_339) rfl ?_
    refine p_ild (cc3 c178_340) rfl ?_
    obtain ⟨r, μ', he, h⟩ := h
    exact p_callV (cc3 c178_341) (Nat.le_of_ble_eq_true rfl) rfl rfl (Nat.le_of_ble_eq_true rfl) (ml_kd hΦ) he h
  · have h := h.2 c
    refine p_ald (cc3 c178_311) rfl ?_
    refine p_ild (cc3 c178_312) rfl ?_
    obtain ⟨r, μ', he, h⟩ := h
    exact p_callV (cc3 c178_313) (Nat.le_of_ble_eq_true rfl) rfl rfl (Nat.le_of_ble_eq_true rfl) (ml_kd hΦ) he h
theorem B178_316 {ev : xV} {Q : Option Value → xM → Prop} {m : Nat} {Φ : (Nat → Nat → Int32) → xM} (hΦ : MLaw m Φ) {μ : Nat → Nat → Int32} {x3 s0 s1 : Int32} (h : ((s0 ≤ 2) → vp_in s1 7 ∧ (∃ r μ', ev 184 [.ref m, .int x3] (Φ (U μ 36 s1.toNatClampNeg (vp_nar .boolean 0))) (some (.int r)) (Φ μ') ∧ wpE (xT 178) ev Q (344, [(0, .ref m), (3, .int x3)], [.int r, .ref m], Φ μ'))) ∧ (¬ (s0 ≤ 2) → vp_in (μ 0 53) 7 ∧ (((μ 36 (μ 0 53).toNatClampNeg) = 0) → vp_in s1 7 ∧ (∃ r μ', ev 184 [.ref m, .int x3] (Φ (U μ 36 s1.toNatClampNeg (vp_nar .boolean 0))) (some (.int r)) (Φ μ') ∧ wpE (xT 178) ev Q (344, [(0, .ref m), (3, .int x3)], [.int r, .ref m], Φ μ'))) ∧ (¬ ((μ 36 (μ 0 53).toNatClampNeg) = 0) → vp_in s1 7 ∧ (∃ r μ', ev 184 [.ref m, .int x3] (Φ (U μ 36 s1.toNatClampNeg (vp_nar .boolean 1))) (some (.int r)) (Φ μ') ∧ wpE (xT 178) ev Q (344, [(0, .ref m), (3, .int x3)], [.int r, .ref m], Φ μ'))))) : wpE (xT 178) ev Q (316, [(0, .ref m), (3, .int x3)], [.int s0, .int s1, .ref (m + 36)], Φ μ) := by
  refine p_push (cc3 c178_316) ?_
  refine p_icmp (cc3 c178_317) (fun c => ?_) (fun c => ?_)
  · have h := h.1 c
    refine p_push (cct c178_336 rfl) ?_
    obtain ⟨g, h⟩ := h
    refine pm_asti hΦ (c := 36) (n := 7) (cct c178_337 rfl) (by decide) rfl rfl rfl g ?_
    refine p_ald (cc3 c178_338) rfl ?_
    refine p_ald (cc3 c178_339) rfl ?_
    refine p_ild (cc3 c178_340) rfl ?_
    obtain ⟨r, μ', he, h⟩ := h
    exact p_callV (cc3 c178_341) (Nat.le_of_ble_eq_true rfl) rfl rfl (Nat.le_of_ble_eq_true rfl) (ml_kd hΦ) he h
  · have h := h.2 c
    refine p_ald (cc3 c178_320) rfl ?_
    refine pm_getp hΦ (cc3 c178_321) (c := 36) rfl (by decide) ?_
    refine p_ald (cc3 c178_324) rfl ?_
    refine pm_geti hΦ (v := μ 0 53) (cc3 c178_325) rfl ?_
    obtain ⟨g, h⟩ := h
    refine pm_aldi hΦ (c := 36) (n := 7) (cc3 c178_328) (by decide) rfl rfl rfl g rfl ?_
    refine p_if (cc3 c178_329) (fun c => ?_) (fun c => ?_)
    · have h := h.1 c
      refine p_push (cct c178_336 rfl) ?_
      obtain ⟨g, h⟩ := h
      refine pm_asti hΦ (c := 36) (n := 7) (cct c178_337 rfl) (by decide) rfl rfl rfl g ?_
      refine p_ald (cc3 c178_338) rfl ?_
      refine p_ald (cc3 c178_339) rfl ?_
      refine p_ild (cc3 c178_340) rfl ?_
      obtain ⟨r, μ', he, h⟩ := h
      exact p_callV (cc3 c178_341) (Nat.le_of_ble_eq_true rfl) rfl rfl (Nat.le_of_ble_eq_true rfl) (ml_kd hΦ) he h
    · have h := h.2 c
      refine p_push (cct c178_332 rfl) ?_
      refine p_goto (cc3 c178_333) ?_
      obtain ⟨g, h⟩ := h
      refine pm_asti hΦ (c := 36) (n := 7) (cct c178_337 rfl) (by decide) rfl rfl rfl g ?_
      refine p_ald (cc3 c178_338) rfl ?_
      refine p_ald (cc3 c178_339) rfl ?_
      refine p_ild (cc3 c178_340) rfl ?_
      obtain ⟨r, μ', he, h⟩ := h
      exact p_callV (cc3 c178_341) (Nat.le_of_ble_eq_true rfl) rfl rfl (Nat.le_of_ble_eq_true rfl) (ml_kd hΦ) he h
theorem B178_344 {ev : xV} {Q : Option Value → xM → Prop} {m : Nat} {Φ : (Nat → Nat → Int32) → xM} (hΦ : MLaw m Φ) {μ : Nat → Nat → Int32} {x3 s0 : Int32} (h : (∃ μ', ev 183 [.ref m, .int s0] (Φ μ) none (Φ μ') ∧ wpE (xT 178) ev Q (347, [(0, .ref m), (3, .int x3)], [], Φ μ'))) : wpE (xT 178) ev Q (344, [(0, .ref m), (3, .int x3)], [.int s0, .ref m], Φ μ) := by
  obtain ⟨μ', he, h⟩ := h
  exact p_callV (cc3 c178_344) (Nat.le_of_ble_eq_true rfl) rfl rfl (Nat.le_of_ble_eq_true rfl) (ml_kd hΦ) he h
theorem B178_347 {ev : xV} {Q : Option Value → xM → Prop} {m : Nat} {Φ : (Nat → Nat → Int32) → xM} (hΦ : MLaw m Φ) {μ : Nat → Nat → Int32} {x3 : Int32} (h : (∃ μ', ev 181 [.ref m, .int x3] (Φ μ) none (Φ μ') ∧ wpE (xT 178) ev Q (352, [(0, .ref m), (3, .int x3)], [], Φ μ'))) : wpE (xT 178) ev Q (347, [(0, .ref m), (3, .int x3)], [], Φ μ) := by
  refine p_ald (cc3 c178_347) rfl ?_
  refine p_ild (cc3 c178_348) rfl ?_
  obtain ⟨μ', he, h⟩ := h
  exact p_callV (cc3 c178_349) (Nat.le_of_ble_eq_true rfl) rfl rfl (Nat.le_of_ble_eq_true rfl) (ml_kd hΦ) he h
theorem B178_352 {ev : xV} {Q : Option Value → xM → Prop} {m : Nat} {Φ : (Nat → Nat → Int32) → xM} (hΦ : MLaw m Φ) {μ : Nat → Nat → Int32} {x3 : Int32} (h : (∃ r μ', ev 184 [.ref m, .int x3] (Φ μ) (some (.int r)) (Φ μ') ∧ wpE (xT 178) ev Q (359, [(1, .int 1), (0, .ref m), (3, .int x3)], [.int r], Φ μ'))) : wpE (xT 178) ev Q (352, [(0, .ref m), (3, .int x3)], [], Φ μ) := by
  refine p_push (cc3 c178_352) ?_
  refine p_ist (ls' := [(1, .int 1), (0, .ref m), (3, .int x3)]) (cc3 c178_353) (by decide) rfl ?_
  refine p_ald (cc3 c178_354) rfl ?_
  refine p_ild (cc3 c178_355) rfl ?_
  obtain ⟨r, μ', he, h⟩ := h
  exact p_callV (cc3 c178_356) (Nat.le_of_ble_eq_true rfl) rfl rfl (Nat.le_of_ble_eq_true rfl) (ml_kd hΦ) he h
theorem B178_359 {ev : xV} {Q : Option Value → xM → Prop} {m : Nat} {Φ : (Nat → Nat → Int32) → xM} (hΦ : MLaw m Φ) {μ : Nat → Nat → Int32} {x1 x3 s0 : Int32} (h : ((3 ≤ s0) → (∃ μ', ev 172 [.ref m] (Φ μ) none (Φ μ') ∧ wpE (xT 178) ev Q (373, [(2, .int 0), (0, .ref m), (1, .int x1)], [], Φ μ'))) ∧ (¬ (3 ≤ s0) → (∃ μ', ev 172 [.ref m] (Φ μ) none (Φ μ') ∧ wpE (xT 178) ev Q (373, [(2, .int 1), (0, .ref m), (1, .int x1)], [], Φ μ')))) : wpE (xT 178) ev Q (359, [(1, .int x1), (0, .ref m), (3, .int x3)], [.int s0], Φ μ) := by
  refine p_push (cc3 c178_359) ?_
  refine p_icmp (cc3 c178_360) (fun c => ?_) (fun c => ?_)
  · have h := h.1 c
    refine p_push (cc3 c178_367) ?_
    refine p_lc (ls' := [(0, .ref m), (1, .int x1)]) c178_368 rfl rfl ?_
    refine p_ist (ls' := [(2, .int 0), (0, .ref m), (1, .int x1)]) (cct c178_368 rfl) (by decide) rfl ?_
    refine p_ald (cc3 c178_369) rfl ?_
    obtain ⟨μ', he, h⟩ := h
    exact p_callV (cc3 c178_370) (Nat.le_of_ble_eq_true rfl) rfl rfl (Nat.le_of_ble_eq_true rfl) (ml_kd hΦ) he h
  · have h := h.2 c
    refine p_push (cc3 c178_363) ?_
    refine p_goto (cc3 c178_364) ?_
    refine p_lc (ls' := [(0, .ref m), (1, .int x1)]) c178_368 rfl rfl ?_
    refine p_ist (ls' := [(2, .int 1), (0, .ref m), (1, .int x1)]) (cct c178_368 rfl) (by decide) rfl ?_
    refine p_ald (cc3 c178_369) rfl ?_
    obtain ⟨μ', he, h⟩ := h
    exact p_callV (cc3 c178_370) (Nat.le_of_ble_eq_true rfl) rfl rfl (Nat.le_of_ble_eq_true rfl) (ml_kd hΦ) he h
theorem B178_373 {ev : xV} {Q : Option Value → xM → Prop} {m : Nat} {Φ : (Nat → Nat → Int32) → xM} (hΦ : MLaw m Φ) {μ : Nat → Nat → Int32} {x2 x1 : Int32} (h : wpE (xT 178) ev Q (36, [(0, .ref m), (1, .int x1), (2, .int x2)], [], Φ μ)) : wpE (xT 178) ev Q (373, [(2, .int x2), (0, .ref m), (1, .int x1)], [], Φ μ) := by
  refine p_goto (cc3 c178_373) ?_
  exact p_lc (ls' := [(0, .ref m), (1, .int x1), (2, .int x2)]) c178_36 rfl rfl h
theorem B179_0 {ev : xV} {Q : Option Value → xM → Prop} {m : Nat} {Φ : (Nat → Nat → Int32) → xM} (hΦ : MLaw m Φ) {μ : Nat → Nat → Int32} {x1 : Int32} (h : (((μ 0 47) = 1) → Q (some (.int 1)) (Φ μ)) ∧ (¬ ((μ 0 47) = 1) → (((μ 0 47) = 2) → Q (some (.int 1)) (Φ μ)) ∧ (¬ ((μ 0 47) = 2) → (((μ 0 54) = 5) → Q (some (.int 0)) (Φ μ)) ∧ (¬ ((μ 0 54) = 5) → (∃ r μ', ev 177 [.ref m, .int 4] (Φ μ) (some (.int r)) (Φ μ') ∧ wpE (xT 179) ev Q (33, [(0, .ref m), (1, .int x1)], [.int r], Φ μ')))))) : wpE (xT 179) ev Q (0, [(0, .ref m), (1, .int x1)], [], Φ μ) := by
  refine p_ald (cc3 c179_0) rfl ?_
  refine pm_geti hΦ (v := μ 0 47) (cc3 c179_1) rfl ?_
  refine p_push (cc3 c179_4) ?_
  refine p_icmp (cc3 c179_5) (fun c => ?_) (fun c => ?_)
  · have h := h.1 c
    refine p_lc (ls' := []) c179_16 rfl rfl ?_
    refine p_push (cct c179_16 rfl) ?_
    exact p_ri (cc3 c179_17) (by decide) h
  · have h := h.2 c
    refine p_ald (cc3 c179_8) rfl ?_
    refine pm_geti hΦ (v := μ 0 47) (cc3 c179_9) rfl ?_
    refine p_push (cc3 c179_12) ?_
    refine p_icmp (cc3 c179_13) (fun c => ?_) (fun c => ?_)
    · have h := h.1 c
      refine p_lc (ls' := []) c179_16 rfl rfl ?_
      refine p_push (cct c179_16 rfl) ?_
      exact p_ri (cc3 c179_17) (by decide) h
    · have h := h.2 c
      refine p_ald (cc3 c179_18) rfl ?_
      refine pm_geti hΦ (v := μ 0 54) (cc3 c179_19) rfl ?_
      refine p_push (cc3 c179_22) ?_
      refine p_icmp (cc3 c179_23) (fun c => ?_) (fun c => ?_)
      · have h := h.1 c
        refine p_push (cc3 c179_26) ?_
        exact p_ri (cc3 c179_27) (by decide) h
      · have h := h.2 c
        refine p_ald (cc3 c179_28) rfl ?_
        refine p_push (cc3 c179_29) ?_
        obtain ⟨r, μ', he, h⟩ := h
        exact p_callV (cc3 c179_30) (Nat.le_of_ble_eq_true rfl) rfl rfl (Nat.le_of_ble_eq_true rfl) (ml_kd hΦ) he h
theorem B179_33 {ev : xV} {Q : Option Value → xM → Prop} {m : Nat} {Φ : (Nat → Nat → Int32) → xM} (hΦ : MLaw m Φ) {μ : Nat → Nat → Int32} {x1 s0 : Int32} (h : ((s0 = 0) → (∃ r μ', ev 180 [.ref m, .int 40] (Φ μ) (some (.int r)) (Φ μ') ∧ wpE (xT 179) ev Q (44, [(0, .ref m), (1, .int x1)], [.int r], Φ μ'))) ∧ (¬ (s0 = 0) → ((x1 = 0 ∨ x1 = 1) ∧ Q (some (.int x1)) (Φ μ)))) : wpE (xT 179) ev Q (33, [(0, .ref m), (1, .int x1)], [.int s0], Φ μ) := by
  refine p_if (cc3 c179_33) (fun c => ?_) (fun c => ?_)
  · have h := h.1 c
    refine p_ald (cc3 c179_38) rfl ?_
    refine p_push (cc3 c179_39) ?_
    obtain ⟨r, μ', he, h⟩ := h
    exact p_callV (cc3 c179_41) (Nat.le_of_ble_eq_true rfl) rfl rfl (Nat.le_of_ble_eq_true rfl) (ml_kd hΦ) he h
  · have h := h.2 c
    refine p_ild (cc3 c179_36) rfl ?_
    exact p_ri (cc3 c179_37) h.1 h.2
theorem B179_44 {ev : xV} {Q : Option Value → xM → Prop} {m : Nat} {Φ : (Nat → Nat → Int32) → xM} (hΦ : MLaw m Φ) {μ : Nat → Nat → Int32} {x1 s0 : Int32} (h : ((s0 = 0) → (∃ r μ', ev 180 [.ref m, .int 45] (Φ μ) (some (.int r)) (Φ μ') ∧ wpE (xT 179) ev Q (53, [(0, .ref m), (1, .int x1)], [.int r], Φ μ'))) ∧ (¬ (s0 = 0) → Q (some (.int 1)) (Φ μ))) : wpE (xT 179) ev Q (44, [(0, .ref m), (1, .int x1)], [.int s0], Φ μ) := by
  refine p_if (cc3 c179_44) (fun c => ?_) (fun c => ?_)
  · have h := h.1 c
    refine p_ald (cc3 c179_47) rfl ?_
    refine p_push (cc3 c179_48) ?_
    obtain ⟨r, μ', he, h⟩ := h
    exact p_callV (cc3 c179_50) (Nat.le_of_ble_eq_true rfl) rfl rfl (Nat.le_of_ble_eq_true rfl) (ml_kd hΦ) he h
  · have h := h.2 c
    refine p_lc (ls' := []) c179_56 rfl rfl ?_
    refine p_push (cct c179_56 rfl) ?_
    refine p_goto (cc3 c179_57) ?_
    exact p_ri (cct c179_61 rfl) (by decide) h
theorem B179_53 {ev : xV} {Q : Option Value → xM → Prop} {m : Nat} {Φ : (Nat → Nat → Int32) → xM} (hΦ : MLaw m Φ) {μ : Nat → Nat → Int32} {x1 s0 : Int32} (h : ((s0 = 0) → Q (some (.int 0)) (Φ μ)) ∧ (¬ (s0 = 0) → Q (some (.int 1)) (Φ μ))) : wpE (xT 179) ev Q (53, [(0, .ref m), (1, .int x1)], [.int s0], Φ μ) := by
  refine p_if (cc3 c179_53) (fun c => ?_) (fun c => ?_)
  · have h := h.1 c
    refine p_push (cc3 c179_60) ?_
    refine p_lc (ls' := []) c179_61 rfl rfl ?_
    exact p_ri (cct c179_61 rfl) (by decide) h
  · have h := h.2 c
    refine p_lc (ls' := []) c179_56 rfl rfl ?_
    refine p_push (cct c179_56 rfl) ?_
    refine p_goto (cc3 c179_57) ?_
    exact p_ri (cct c179_61 rfl) (by decide) h
theorem B180_0 {ev : xV} {Q : Option Value → xM → Prop} {m : Nat} {Φ : (Nat → Nat → Int32) → xM} (hΦ : MLaw m Φ) {μ : Nat → Nat → Int32} {x1 : Int32} (h : (((μ 0 47) = 4) → (((μ 0 48) = x1) → Q (some (.int 1)) (Φ μ)) ∧ (¬ ((μ 0 48) = x1) → Q (some (.int 0)) (Φ μ))) ∧ (¬ ((μ 0 47) = 4) → Q (some (.int 0)) (Φ μ))) : wpE (xT 180) ev Q (0, [(0, .ref m), (1, .int x1)], [], Φ μ) := by
  refine p_ald (cc3 c180_0) rfl ?_
  refine pm_geti hΦ (v := μ 0 47) (cc3 c180_1) rfl ?_
  refine p_push (cc3 c180_4) ?_
  refine p_icmp (cc3 c180_5) (fun c => ?_) (fun c => ?_)
  · have h := h.1 c
    refine p_ald (cc3 c180_8) rfl ?_
    refine pm_geti hΦ (v := μ 0 48) (cc3 c180_9) rfl ?_
    refine p_ild (cc3 c180_12) rfl ?_
    refine p_icmp (cc3 c180_13) (fun c => ?_) (fun c => ?_)
    · have h := h.1 c
      refine p_push (cc3 c180_16) ?_
      refine p_goto (cc3 c180_17) ?_
      refine p_lc (ls' := []) c180_21 rfl rfl ?_
      exact p_ri (cct c180_21 rfl) (by decide) h
    · have h := h.2 c
      refine p_lc (ls' := []) c180_20 rfl rfl ?_
      refine p_push (cct c180_20 rfl) ?_
      exact p_ri (cct c180_21 rfl) (by decide) h
  · have h := h.2 c
    refine p_lc (ls' := []) c180_20 rfl rfl ?_
    refine p_push (cct c180_20 rfl) ?_
    exact p_ri (cct c180_21 rfl) (by decide) h
theorem B181_0 {ev : xV} {Q : Option Value → xM → Prop} {m : Nat} {Φ : (Nat → Nat → Int32) → xM} (hΦ : MLaw m Φ) {μ : Nat → Nat → Int32} {x1 : Int32} (h : vp_in (μ 0 52) 161 ∧ ((x1 = (-3)) → Q none (Φ (U (U (U μ 35 ((μ 0 52).toNatClampNeg) x1) 0 52 ((μ 0 52) + 1)) 0 54 ((μ 0 54) + 1)))) ∧ (¬ (x1 = (-3)) → ((x1 = (-9)) → Q none (Φ (U (U (U μ 35 ((μ 0 52).toNatClampNeg) x1) 0 52 ((μ 0 52) + 1)) 0 54 ((μ 0 54) + 1)))) ∧ (¬ (x1 = (-9)) → ((x1 = (-10)) → Q none (Φ (U (U (U μ 35 ((μ 0 52).toNatClampNeg) x1) 0 52 ((μ 0 52) + 1)) 0 54 ((μ 0 54) + 1)))) ∧ (¬ (x1 = (-10)) → Q none (Φ (U (U μ 35 ((μ 0 52).toNatClampNeg) x1) 0 52 ((μ 0 52) + 1))))))) : wpE (xT 181) ev Q (0, [(0, .ref m), (1, .int x1)], [], Φ μ) := by
  refine p_ald (cc3 c181_0) rfl ?_
  refine pm_getp hΦ (cc3 c181_1) (c := 35) rfl (by decide) ?_
  refine p_ald (cc3 c181_4) rfl ?_
  refine pm_geti hΦ (v := μ 0 52) (cc3 c181_5) rfl ?_
  refine p_ild (cc3 c181_8) rfl ?_
  obtain ⟨g, h⟩ := h
  refine pm_asti hΦ (c := 35) (n := 161) (cc3 c181_9) (by decide) rfl rfl rfl g ?_
  refine p_ald (cc3 c181_10) rfl ?_
  refine p_dup (cc3 c181_11) rfl ?_
  refine pm_geti hΦ (v := μ 0 52) (cc3 c181_12) rfl ?_
  refine p_push (cc3 c181_15) ?_
  refine p_bin (cc3 c181_16) ?_
  refine pm_puti hΦ (cc3 c181_17) ?_
  refine p_ild (cc3 c181_20) rfl ?_
  refine p_push (cc3 c181_21) ?_
  refine p_icmp (cc3 c181_23) (fun c => ?_) (fun c => ?_)
  · have h := h.1 c
    refine p_lc (ls' := [(0, .ref m)]) c181_38 rfl rfl ?_
    refine p_ald (cct c181_38 rfl) rfl ?_
    refine p_dup (cc3 c181_39) rfl ?_
    refine pm_geti hΦ (v := μ 0 54) (cc3 c181_40) rfl ?_
    refine p_push (cc3 c181_43) ?_
    refine p_bin (cc3 c181_44) ?_
    refine pm_puti hΦ (cc3 c181_45) ?_
    refine p_lc (ls' := []) c181_48 rfl rfl ?_
    exact p_rv (cct c181_48 rfl) h
  · have h := h.2 c
    refine p_ild (cc3 c181_26) rfl ?_
    refine p_push (cc3 c181_27) ?_
    refine p_icmp (cc3 c181_29) (fun c => ?_) (fun c => ?_)
    · have h := h.1 c
      refine p_lc (ls' := [(0, .ref m)]) c181_38 rfl rfl ?_
      refine p_ald (cct c181_38 rfl) rfl ?_
      refine p_dup (cc3 c181_39) rfl ?_
      refine pm_geti hΦ (v := μ 0 54) (cc3 c181_40) rfl ?_
      refine p_push (cc3 c181_43) ?_
      refine p_bin (cc3 c181_44) ?_
      refine pm_puti hΦ (cc3 c181_45) ?_
      refine p_lc (ls' := []) c181_48 rfl rfl ?_
      exact p_rv (cct c181_48 rfl) h
    · have h := h.2 c
      refine p_ild (cc3 c181_32) rfl ?_
      refine p_push (cc3 c181_33) ?_
      refine p_icmp (cc3 c181_35) (fun c => ?_) (fun c => ?_)
      · have h := h.1 c
        refine p_lc (ls' := [(0, .ref m)]) c181_38 rfl rfl ?_
        refine p_ald (cct c181_38 rfl) rfl ?_
        refine p_dup (cc3 c181_39) rfl ?_
        refine pm_geti hΦ (v := μ 0 54) (cc3 c181_40) rfl ?_
        refine p_push (cc3 c181_43) ?_
        refine p_bin (cc3 c181_44) ?_
        refine pm_puti hΦ (cc3 c181_45) ?_
        refine p_lc (ls' := []) c181_48 rfl rfl ?_
        exact p_rv (cct c181_48 rfl) h
      · have h := h.2 c
        refine p_lc (ls' := []) c181_48 rfl rfl ?_
        exact p_rv (cct c181_48 rfl) h
theorem B182_0 {ev : xV} {Q : Option Value → xM → Prop} {m : Nat} {Φ : (Nat → Nat → Int32) → xM} (hΦ : MLaw m Φ) {μ : Nat → Nat → Int32} {x1 : Int32} (h : vp_in (μ 0 55) 12 ∧ vp_in ((160 * (μ 0 55)) + (μ 33 (μ 0 55).toNatClampNeg)) 1920 ∧ vp_in (μ 0 55) 12 ∧ vp_in (μ 0 55) 12 ∧ Q none (Φ (U (U μ 34 (((160 * (μ 0 55)) + (μ 33 (μ 0 55).toNatClampNeg)).toNatClampNeg) x1) 33 ((μ 0 55).toNatClampNeg) (((U μ 34 (((160 * (μ 0 55)) + (μ 33 (μ 0 55).toNatClampNeg)).toNatClampNeg) x1) 33 (μ 0 55).toNatClampNeg) + 1)))) : wpE (xT 182) ev Q (0, [(0, .ref m), (1, .int x1)], [], Φ μ) := by
  refine p_ald (cc3 c182_0) rfl ?_
  refine pm_getp hΦ (cc3 c182_1) (c := 34) rfl (by decide) ?_
  refine p_push (cc3 c182_4) ?_
  refine p_ald (cc3 c182_7) rfl ?_
  refine pm_geti hΦ (v := μ 0 55) (cc3 c182_8) rfl ?_
  refine p_bin (cc3 c182_11) ?_
  refine p_ald (cc3 c182_12) rfl ?_
  refine pm_getp hΦ (cc3 c182_13) (c := 33) rfl (by decide) ?_
  refine p_ald (cc3 c182_16) rfl ?_
  refine pm_geti hΦ (v := μ 0 55) (cc3 c182_17) rfl ?_
  obtain ⟨g, h⟩ := h
  refine pm_aldi hΦ (c := 33) (n := 12) (cc3 c182_20) (by decide) rfl rfl rfl g rfl ?_
  refine p_bin (cc3 c182_21) ?_
  refine p_ild (cc3 c182_22) rfl ?_
  obtain ⟨g, h⟩ := h
  refine pm_asti hΦ (c := 34) (n := 1920) (cc3 c182_23) (by decide) rfl rfl rfl g ?_
  refine p_ald (cc3 c182_24) rfl ?_
  refine pm_getp hΦ (cc3 c182_25) (c := 33) rfl (by decide) ?_
  refine p_ald (cc3 c182_28) rfl ?_
  refine pm_geti hΦ (v := μ 0 55) (cc3 c182_29) rfl ?_
  refine p_dup2 (cc3 c182_32) rfl rfl ?_
  obtain ⟨g, h⟩ := h
  refine pm_aldi hΦ (c := 33) (n := 12) (cc3 c182_33) (by decide) rfl rfl rfl g rfl ?_
  refine p_push (cc3 c182_34) ?_
  refine p_bin (cc3 c182_35) ?_
  obtain ⟨g, h⟩ := h
  refine pm_asti hΦ (c := 33) (n := 12) (cc3 c182_36) (by decide) rfl rfl rfl g ?_
  exact p_rv (cc3 c182_37) h
theorem B183_0 {ev : xV} {Q : Option Value → xM → Prop} {m : Nat} {Φ : (Nat → Nat → Int32) → xM} (hΦ : MLaw m Φ) {μ : Nat → Nat → Int32} {x1 : Int32} (h : (((μ 0 52) ≤ 0) → Q none (Φ μ)) ∧ (¬ ((μ 0 52) ≤ 0) → vp_in ((μ 0 52) - 1) 161 ∧ (∃ r μ', ev 184 [.ref m, .int (μ 35 ((μ 0 52) - 1).toNatClampNeg)] (Φ μ) (some (.int r)) (Φ μ') ∧ wpE (xT 183) ev Q (22, [(0, .ref m), (1, .int x1)], [.int r], Φ μ')))) : wpE (xT 183) ev Q (0, [(0, .ref m), (1, .int x1)], [], Φ μ) := by
  refine p_ald (cct c183_0 rfl) rfl ?_
  refine pm_geti hΦ (v := μ 0 52) (cc3 c183_1) rfl ?_
  refine p_if (cc3 c183_4) (fun c => ?_) (fun c => ?_)
  · have h := h.1 c
    refine p_lc (ls' := []) c183_90 rfl rfl ?_
    exact p_rv (cct c183_90 rfl) h
  · have h := h.2 c
    refine p_ald (cc3 c183_7) rfl ?_
    refine p_ald (cc3 c183_8) rfl ?_
    refine pm_getp hΦ (cc3 c183_9) (c := 35) rfl (by decide) ?_
    refine p_ald (cc3 c183_12) rfl ?_
    refine pm_geti hΦ (v := μ 0 52) (cc3 c183_13) rfl ?_
    refine p_push (cc3 c183_16) ?_
    refine p_bin (cc3 c183_17) ?_
    obtain ⟨g, h⟩ := h
    refine pm_aldi hΦ (c := 35) (n := 161) (cc3 c183_18) (by decide) rfl rfl rfl g rfl ?_
    obtain ⟨r, μ', he, h⟩ := h
    exact p_callV (cc3 c183_19) (Nat.le_of_ble_eq_true rfl) rfl rfl (Nat.le_of_ble_eq_true rfl) (ml_kd hΦ) he h
theorem B183_22 {ev : xV} {Q : Option Value → xM → Prop} {m : Nat} {Φ : (Nat → Nat → Int32) → xM} (hΦ : MLaw m Φ) {μ : Nat → Nat → Int32} {x1 s0 : Int32} (h : ((s0 < x1) → Q none (Φ μ)) ∧ (¬ (s0 < x1) → vp_in ((μ 0 52) - 1) 161 ∧ (∃ μ', ev 182 [.ref m, .int ((U μ 0 52 ((μ 0 52) - 1)) 35 ((μ 0 52) - 1).toNatClampNeg)] (Φ (U μ 0 52 ((μ 0 52) - 1))) none (Φ μ') ∧ wpE (xT 183) ev Q (49, [(0, .ref m), (1, .int x1)], [], Φ μ')))) : wpE (xT 183) ev Q (22, [(0, .ref m), (1, .int x1)], [.int s0], Φ μ) := by
  refine p_ild (cc3 c183_22) rfl ?_
  refine p_icmp (cc3 c183_23) (fun c => ?_) (fun c => ?_)
  · have h := h.1 c
    refine p_lc (ls' := []) c183_90 rfl rfl ?_
    exact p_rv (cct c183_90 rfl) h
  · have h := h.2 c
    refine p_ald (cc3 c183_26) rfl ?_
    refine p_dup (cc3 c183_27) rfl ?_
    refine pm_geti hΦ (v := μ 0 52) (cc3 c183_28) rfl ?_
    refine p_push (cc3 c183_31) ?_
    refine p_bin (cc3 c183_32) ?_
    refine pm_puti hΦ (cc3 c183_33) ?_
    refine p_ald (cc3 c183_36) rfl ?_
    refine p_ald (cc3 c183_37) rfl ?_
    refine pm_getp hΦ (cc3 c183_38) (c := 35) rfl (by decide) ?_
    refine p_ald (cc3 c183_41) rfl ?_
    refine pm_geti hΦ (v := (μ 0 52) - 1) (cc3 c183_42) rfl ?_
    obtain ⟨g, h⟩ := h
    refine pm_aldi hΦ (c := 35) (n := 161) (cc3 c183_45) (by decide) rfl rfl rfl g rfl ?_
    obtain ⟨μ', he, h⟩ := h
    exact p_callV (cc3 c183_46) (Nat.le_of_ble_eq_true rfl) rfl rfl (Nat.le_of_ble_eq_true rfl) (ml_kd hΦ) he h
theorem B183_49 {ev : xV} {Q : Option Value → xM → Prop} {m : Nat} {Φ : (Nat → Nat → Int32) → xM} (hΦ : MLaw m Φ) {μ : Nat → Nat → Int32} {x1 : Int32} (h : vp_in (μ 0 52) 161 ∧ (((μ 35 (μ 0 52).toNatClampNeg) = (-3)) → wpE (xT 183) ev Q (0, [(0, .ref m), (1, .int x1)], [], Φ (U μ 0 54 ((μ 0 54) - 1)))) ∧ (¬ ((μ 35 (μ 0 52).toNatClampNeg) = (-3)) → vp_in (μ 0 52) 161 ∧ (((μ 35 (μ 0 52).toNatClampNeg) = (-9)) → wpE (xT 183) ev Q (0, [(0, .ref m), (1, .int x1)], [], Φ (U μ 0 54 ((μ 0 54) - 1)))) ∧ (¬ ((μ 35 (μ 0 52).toNatClampNeg) = (-9)) → wpE (xT 183) ev Q (0, [(0, .ref m), (1, .int x1)], [], Φ μ)))) : wpE (xT 183) ev Q (49, [(0, .ref m), (1, .int x1)], [], Φ μ) := by
  refine p_ald (cc3 c183_49) rfl ?_
  refine pm_getp hΦ (cc3 c183_50) (c := 35) rfl (by decide) ?_
  refine p_ald (cc3 c183_53) rfl ?_
  refine pm_geti hΦ (v := μ 0 52) (cc3 c183_54) rfl ?_
  obtain ⟨g, h⟩ := h
  refine pm_aldi hΦ (c := 35) (n := 161) (cc3 c183_57) (by decide) rfl rfl rfl g rfl ?_
  refine p_push (cc3 c183_58) ?_
  refine p_icmp (cc3 c183_60) (fun c => ?_) (fun c => ?_)
  · have h := h.1 c
    refine p_ald (cct c183_77 rfl) rfl ?_
    refine p_dup (cc3 c183_78) rfl ?_
    refine pm_geti hΦ (v := μ 0 54) (cc3 c183_79) rfl ?_
    refine p_push (cc3 c183_82) ?_
    refine p_bin (cc3 c183_83) ?_
    refine pm_puti hΦ (cc3 c183_84) ?_
    refine p_goto (cc3 c183_87) ?_
    exact h
  · have h := h.2 c
    refine p_ald (cc3 c183_63) rfl ?_
    refine pm_getp hΦ (cc3 c183_64) (c := 35) rfl (by decide) ?_
    refine p_ald (cc3 c183_67) rfl ?_
    refine pm_geti hΦ (v := μ 0 52) (cc3 c183_68) rfl ?_
    obtain ⟨g, h⟩ := h
    refine pm_aldi hΦ (c := 35) (n := 161) (cc3 c183_71) (by decide) rfl rfl rfl g rfl ?_
    refine p_push (cc3 c183_72) ?_
    refine p_icmp (cc3 c183_74) (fun c => ?_) (fun c => ?_)
    · have h := h.1 c
      refine p_ald (cct c183_77 rfl) rfl ?_
      refine p_dup (cc3 c183_78) rfl ?_
      refine pm_geti hΦ (v := μ 0 54) (cc3 c183_79) rfl ?_
      refine p_push (cc3 c183_82) ?_
      refine p_bin (cc3 c183_83) ?_
      refine pm_puti hΦ (cc3 c183_84) ?_
      refine p_goto (cc3 c183_87) ?_
      exact h
    · have h := h.2 c
      exact h
theorem B184_0 {ev : xV} {Q : Option Value → xM → Prop} {m : Nat} {Φ : (Nat → Nat → Int32) → xM} (hΦ : MLaw m Φ) {μ : Nat → Nat → Int32} {x1 : Int32} (h : ((x1 = (-1)) → Q (some (.int 1)) (Φ μ)) ∧ (¬ (x1 = (-1)) → ((x1 = (-2)) → Q (some (.int 2)) (Φ μ)) ∧ (¬ (x1 = (-2)) → ((x1 = (-3)) → Q (some (.int 3)) (Φ μ)) ∧ (¬ (x1 = (-3)) → ((x1 = (-4)) → Q (some (.int 4)) (Φ μ)) ∧ (¬ (x1 = (-4)) → ((x1 = (-5)) → Q (some (.int 4)) (Φ μ)) ∧ (¬ (x1 = (-5)) → ((x1 = (-6)) → Q (some (.int 5)) (Φ μ)) ∧ (¬ (x1 = (-6)) → ((x1 = (-7)) → Q (some (.int 5)) (Φ μ)) ∧ (¬ (x1 = (-7)) → ((x1 = (-8)) → Q (some (.int 6)) (Φ μ)) ∧ (¬ (x1 = (-8)) → ((x1 = (-9)) → Q (some (.int 7)) (Φ μ)) ∧ (¬ (x1 = (-9)) → Q (some (.int 0)) (Φ μ))))))))))) : wpE (xT 184) ev Q (0, [(0, .ref m), (1, .int x1)], [], Φ μ) := by
  refine p_ild (cc3 c184_0) rfl ?_
  refine p_push (cc3 c184_1) ?_
  refine p_icmp (cc3 c184_2) (fun c => ?_) (fun c => ?_)
  · have h := h.1 c
    refine p_push (cc3 c184_5) ?_
    refine p_goto (cc3 c184_6) ?_
    refine p_lc (ls' := []) c184_84 rfl rfl ?_
    exact p_ri (cct c184_84 rfl) trivial h
  · have h := h.2 c
    refine p_ild (cc3 c184_9) rfl ?_
    refine p_push (cc3 c184_10) ?_
    refine p_icmp (cc3 c184_12) (fun c => ?_) (fun c => ?_)
    · have h := h.1 c
      refine p_push (cc3 c184_15) ?_
      refine p_goto (cc3 c184_16) ?_
      refine p_lc (ls' := []) c184_84 rfl rfl ?_
      exact p_ri (cct c184_84 rfl) trivial h
    · have h := h.2 c
      refine p_ild (cc3 c184_19) rfl ?_
      refine p_push (cc3 c184_20) ?_
      refine p_icmp (cc3 c184_22) (fun c => ?_) (fun c => ?_)
      · have h := h.1 c
        refine p_push (cc3 c184_25) ?_
        refine p_goto (cc3 c184_26) ?_
        refine p_lc (ls' := []) c184_84 rfl rfl ?_
        exact p_ri (cct c184_84 rfl) trivial h
      · have h := h.2 c
        refine p_ild (cc3 c184_29) rfl ?_
        refine p_push (cc3 c184_30) ?_
        refine p_icmp (cc3 c184_32) (fun c => ?_) (fun c => ?_)
        · have h := h.1 c
          refine p_lc (ls' := []) c184_41 rfl rfl ?_
          refine p_push (cct c184_41 rfl) ?_
          refine p_goto (cc3 c184_42) ?_
          exact p_ri (cct c184_84 rfl) trivial h
        · have h := h.2 c
          refine p_ild (cc3 c184_35) rfl ?_
          refine p_push (cc3 c184_36) ?_
          refine p_icmp (cc3 c184_38) (fun c => ?_) (fun c => ?_)
          · have h := h.1 c
            refine p_lc (ls' := []) c184_41 rfl rfl ?_
            refine p_push (cct c184_41 rfl) ?_
            refine p_goto (cc3 c184_42) ?_
            exact p_ri (cct c184_84 rfl) trivial h
          · have h := h.2 c
            refine p_ild (cc3 c184_45) rfl ?_
            refine p_push (cc3 c184_46) ?_
            refine p_icmp (cc3 c184_48) (fun c => ?_) (fun c => ?_)
            · have h := h.1 c
              refine p_lc (ls' := []) c184_57 rfl rfl ?_
              refine p_push (cct c184_57 rfl) ?_
              refine p_goto (cc3 c184_58) ?_
              exact p_ri (cct c184_84 rfl) trivial h
            · have h := h.2 c
              refine p_ild (cc3 c184_51) rfl ?_
              refine p_push (cc3 c184_52) ?_
              refine p_icmp (cc3 c184_54) (fun c => ?_) (fun c => ?_)
              · have h := h.1 c
                refine p_lc (ls' := []) c184_57 rfl rfl ?_
                refine p_push (cct c184_57 rfl) ?_
                refine p_goto (cc3 c184_58) ?_
                exact p_ri (cct c184_84 rfl) trivial h
              · have h := h.2 c
                refine p_ild (cc3 c184_61) rfl ?_
                refine p_push (cc3 c184_62) ?_
                refine p_icmp (cc3 c184_64) (fun c => ?_) (fun c => ?_)
                · have h := h.1 c
                  refine p_push (cc3 c184_67) ?_
                  refine p_goto (cc3 c184_69) ?_
                  refine p_lc (ls' := []) c184_84 rfl rfl ?_
                  exact p_ri (cct c184_84 rfl) trivial h
                · have h := h.2 c
                  refine p_ild (cc3 c184_72) rfl ?_
                  refine p_push (cc3 c184_73) ?_
                  refine p_icmp (cc3 c184_75) (fun c => ?_) (fun c => ?_)
                  · have h := h.1 c
                    refine p_push (cc3 c184_78) ?_
                    refine p_goto (cc3 c184_80) ?_
                    refine p_lc (ls' := []) c184_84 rfl rfl ?_
                    exact p_ri (cct c184_84 rfl) trivial h
                  · have h := h.2 c
                    refine p_push (cc3 c184_83) ?_
                    refine p_lc (ls' := []) c184_84 rfl rfl ?_
                    exact p_ri (cct c184_84 rfl) trivial h
