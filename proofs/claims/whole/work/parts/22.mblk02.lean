theorem B151_0 {ev : xV} {Q : Option Value → xM → Prop} {m : Nat} {Φ : (Nat → Nat → Int32) → xM} (hΦ : MLaw m Φ) {μ : Nat → Nat → Int32} {x1 x2 x3 : Int32} (h : vp_in x3 5 ∧ vp_in x1 8 ∧ (∃ r μ', ev 137 [.ref m, .int x3, .int 0] (Φ (U (U μ 0 32 (μ 3 x3.toNatClampNeg)) 0 41 1000000)) (some (.int r)) (Φ μ') ∧ wpE (xT 151) ev Q (32, [(0, .ref m), (1, .int x1), (2, .int x2), (3, .int x3)], [.int r, .int (((U (U μ 0 32 (μ 3 x3.toNatClampNeg)) 0 41 1000000) 18 x1.toNatClampNeg) / 2), .int 0, .ref m], Φ μ'))) : wpE (xT 151) ev Q (0, [(0, .ref m), (1, .int x1), (2, .int x2), (3, .int x3)], [], Φ μ) := by
  refine p_ald rfl rfl ?_
  refine p_ald rfl rfl ?_
  refine pm_getp hΦ rfl (c := 3) rfl (by decide) ?_
  refine p_ild rfl rfl ?_
  obtain ⟨g, h⟩ := h
  refine pm_aldi hΦ (c := 3) (n := 5) rfl (by decide) rfl rfl g rfl ?_
  refine pm_puti hΦ rfl ?_
  refine p_ald rfl rfl ?_
  refine p_push (v := .int 1000000) rfl ?_
  refine pm_puti hΦ rfl ?_
  refine p_ald rfl rfl ?_
  refine p_push (v := .int 0) rfl ?_
  refine p_ald rfl rfl ?_
  refine pm_getp hΦ rfl (c := 18) rfl (by decide) ?_
  refine p_ild rfl rfl ?_
  obtain ⟨g, h⟩ := h
  refine pm_aldi hΦ (c := 18) (n := 8) rfl (by decide) rfl rfl g rfl ?_
  refine p_push (v := .int 2) rfl ?_
  refine p_div rfl (by decide) ?_
  refine p_ald rfl rfl ?_
  refine p_ild rfl rfl ?_
  refine p_push (v := .int 0) rfl ?_
  obtain ⟨r, μ', he, h⟩ := h
  exact p_callV rfl (Nat.le_of_ble_eq_true rfl) rfl rfl (Nat.le_of_ble_eq_true rfl) (ml_kd hΦ) he h
theorem B151_32 {ev : xV} {Q : Option Value → xM → Prop} {m : Nat} {Φ : (Nat → Nat → Int32) → xM} (hΦ : MLaw m Φ) {μ : Nat → Nat → Int32} {x1 x2 x3 s0 s1 s2 : Int32} (h : (∃ r μ', ev 152 [.ref m, .int s2, .int s1, .int s0] (Φ μ) (some (.int r)) (Φ μ') ∧ wpE (xT 151) ev Q (35, [(0, .ref m), (1, .int x1), (2, .int x2), (3, .int x3)], [.int r], Φ μ'))) : wpE (xT 151) ev Q (32, [(0, .ref m), (1, .int x1), (2, .int x2), (3, .int x3)], [.int s0, .int s1, .int s2, .ref m], Φ μ) := by
  obtain ⟨r, μ', he, h⟩ := h
  exact p_callV rfl (Nat.le_of_ble_eq_true rfl) rfl rfl (Nat.le_of_ble_eq_true rfl) (ml_kd hΦ) he h
theorem B151_35 {ev : xV} {Q : Option Value → xM → Prop} {m : Nat} {Φ : (Nat → Nat → Int32) → xM} (hΦ : MLaw m Φ) {μ : Nat → Nat → Int32} {x1 x2 x3 s0 : Int32} (h : wpE (xT 151) ev Q (40, [(0, .ref m), (1, .int x1), (2, .int x2), (3, .int x3), (4, .int s0), (5, .int 0)], [], Φ μ)) : wpE (xT 151) ev Q (35, [(0, .ref m), (1, .int x1), (2, .int x2), (3, .int x3)], [.int s0], Φ μ) := by
  refine p_ist (ls' := [(4, .int s0), (0, .ref m), (1, .int x1), (2, .int x2), (3, .int x3)]) rfl (by decide) rfl ?_
  refine p_push (v := .int 0) rfl ?_
  refine p_ist (ls' := [(5, .int 0), (4, .int s0), (0, .ref m), (1, .int x1), (2, .int x2), (3, .int x3)]) rfl (by decide) rfl ?_
  exact p_loc (ls' := [(0, .ref m), (1, .int x1), (2, .int x2), (3, .int x3), (4, .int s0), (5, .int 0)]) rfl h
theorem B151_40 {ev : xV} {Q : Option Value → xM → Prop} {m : Nat} {Φ : (Nat → Nat → Int32) → xM} (hΦ : MLaw m Φ) {μ : Nat → Nat → Int32} {x1 x2 x3 x4 x5 : Int32} (h : ((4 ≤ x5) → Q (some (.int (μ 0 41))) (Φ μ)) ∧ (¬ (4 ≤ x5) → vp_in x1 8 ∧ (∃ r μ', ev 144 [.ref m, .int x2, .int (x4 + (x5 * (μ 0 32))), .int (μ 18 x1.toNatClampNeg)] (Φ μ) (some (.int r)) (Φ μ') ∧ wpE (xT 151) ev Q (71, [(6, .int (x4 + (x5 * (μ 0 32)))), (0, .ref m), (1, .int x1), (2, .int x2), (3, .int x3), (4, .int x4), (5, .int x5)], [.int r], Φ μ')))) : wpE (xT 151) ev Q (40, [(0, .ref m), (1, .int x1), (2, .int x2), (3, .int x3), (4, .int x4), (5, .int x5)], [], Φ μ) := by
  refine p_ild rfl rfl ?_
  refine p_push (v := .int 4) rfl ?_
  refine p_icmp rfl (fun c => ?_) (fun c => ?_)
  · have h := h.1 c
    refine p_ald rfl rfl ?_
    refine pm_geti hΦ (v := μ 0 41) rfl rfl ?_
    exact p_ri rfl trivial h
  · have h := h.2 c
    refine p_ild rfl rfl ?_
    refine p_ild rfl rfl ?_
    refine p_ald rfl rfl ?_
    refine pm_geti hΦ (v := μ 0 32) rfl rfl ?_
    refine p_bin rfl ?_
    refine p_bin rfl ?_
    refine p_ist (ls' := [(6, .int (x4 + (x5 * (μ 0 32)))), (0, .ref m), (1, .int x1), (2, .int x2), (3, .int x3), (4, .int x4), (5, .int x5)]) rfl (by decide) rfl ?_
    refine p_ald rfl rfl ?_
    refine p_ild rfl rfl ?_
    refine p_ild rfl rfl ?_
    refine p_ald rfl rfl ?_
    refine pm_getp hΦ rfl (c := 18) rfl (by decide) ?_
    refine p_ild rfl rfl ?_
    obtain ⟨g, h⟩ := h
    refine pm_aldi hΦ (c := 18) (n := 8) rfl (by decide) rfl rfl g rfl ?_
    obtain ⟨r, μ', he, h⟩ := h
    exact p_callV rfl (Nat.le_of_ble_eq_true rfl) rfl rfl (Nat.le_of_ble_eq_true rfl) (ml_kd hΦ) he h
theorem B151_71 {ev : xV} {Q : Option Value → xM → Prop} {m : Nat} {Φ : (Nat → Nat → Int32) → xM} (hΦ : MLaw m Φ) {μ : Nat → Nat → Int32} {x6 x1 x2 x3 x4 x5 s0 : Int32} (h : ((s0 = 0) → vp_in x1 8 ∧ (∃ r μ', ev 150 [.ref m, .int x1] (Φ (U μ 29 0.toNatClampNeg (x6 + (μ 18 x1.toNatClampNeg)))) (some (.int r)) (Φ μ') ∧ wpE (xT 151) ev Q (97, [(6, .int x6), (0, .ref m), (1, .int x1), (2, .int x2), (3, .int x3), (4, .int x4), (5, .int x5)], [.int r], Φ μ'))) ∧ (¬ (s0 = 0) → wpE (xT 151) ev Q (40, [(0, .ref m), (1, .int x1), (2, .int x2), (3, .int x3), (4, .int x4), (5, .int (x5 + 1))], [], Φ μ))) : wpE (xT 151) ev Q (71, [(6, .int x6), (0, .ref m), (1, .int x1), (2, .int x2), (3, .int x3), (4, .int x4), (5, .int x5)], [.int s0], Φ μ) := by
  refine p_if rfl (fun c => ?_) (fun c => ?_)
  · have h := h.1 c
    refine p_ald rfl rfl ?_
    refine pm_getp hΦ rfl (c := 29) rfl (by decide) ?_
    refine p_push (v := .int 0) rfl ?_
    refine p_ild rfl rfl ?_
    refine p_ald rfl rfl ?_
    refine pm_getp hΦ rfl (c := 18) rfl (by decide) ?_
    refine p_ild rfl rfl ?_
    obtain ⟨g, h⟩ := h
    refine pm_aldi hΦ (c := 18) (n := 8) rfl (by decide) rfl rfl g rfl ?_
    refine p_bin rfl ?_
    refine pm_asti hΦ (c := 29) (n := 24) rfl (by decide) rfl rfl (by unfold vp_in; decide) ?_
    refine p_ald rfl rfl ?_
    refine p_ild rfl rfl ?_
    obtain ⟨r, μ', he, h⟩ := h
    exact p_callV rfl (Nat.le_of_ble_eq_true rfl) rfl rfl (Nat.le_of_ble_eq_true rfl) (ml_kd hΦ) he h
  · have h := h.2 c
    refine p_goto rfl ?_
    refine p_loc (ls' := [(0, .ref m), (1, .int x1), (2, .int x2), (3, .int x3), (4, .int x4), (5, .int x5)]) rfl ?_
    refine p_iinc (y := x5 + 1) (ls' := [(5, .int (x5 + 1)), (0, .ref m), (1, .int x1), (2, .int x2), (3, .int x3), (4, .int x4)]) rfl (by decide) rfl rfl rfl ?_
    refine p_goto rfl ?_
    exact p_loc (ls' := [(0, .ref m), (1, .int x1), (2, .int x2), (3, .int x3), (4, .int x4), (5, .int (x5 + 1))]) rfl h
theorem B151_97 {ev : xV} {Q : Option Value → xM → Prop} {m : Nat} {Φ : (Nat → Nat → Int32) → xM} (hΦ : MLaw m Φ) {μ : Nat → Nat → Int32} {x6 x1 x2 x3 x4 x5 s0 : Int32} (h : ((s0 = 0) → wpE (xT 151) ev Q (138, [(0, .ref m), (1, .int x1), (2, .int x2), (3, .int x3), (4, .int x4), (5, .int x5), (6, .int x6), (7, .int 1)], [], Φ μ)) ∧ (¬ (s0 = 0) → vp_in x1 8 ∧ vp_in x1 8 ∧ (∃ r μ', ev 137 [.ref m, .int x3, .int (μ 16 x1.toNatClampNeg)] (Φ μ) (some (.int r)) (Φ μ') ∧ wpE (xT 151) ev Q (131, [(6, .int x6), (0, .ref m), (1, .int x1), (2, .int x2), (3, .int x3), (4, .int x4), (5, .int x5)], [.int r, .int ((μ 17 x1.toNatClampNeg) / 2), .int (μ 29 0.toNatClampNeg), .ref m, .int 0, .ref (m + 29)], Φ μ')))) : wpE (xT 151) ev Q (97, [(6, .int x6), (0, .ref m), (1, .int x1), (2, .int x2), (3, .int x3), (4, .int x4), (5, .int x5)], [.int s0], Φ μ) := by
  refine p_if rfl (fun c => ?_) (fun c => ?_)
  · have h := h.1 c
    refine p_loc (ls' := [(0, .ref m), (1, .int x1), (2, .int x2), (3, .int x3), (4, .int x4), (5, .int x5), (6, .int x6)]) rfl ?_
    refine p_push (v := .int 1) rfl ?_
    refine p_ist (ls' := [(7, .int 1), (0, .ref m), (1, .int x1), (2, .int x2), (3, .int x3), (4, .int x4), (5, .int x5), (6, .int x6)]) rfl (by decide) rfl ?_
    exact p_loc (ls' := [(0, .ref m), (1, .int x1), (2, .int x2), (3, .int x3), (4, .int x4), (5, .int x5), (6, .int x6), (7, .int 1)]) rfl h
  · have h := h.2 c
    refine p_ald rfl rfl ?_
    refine pm_getp hΦ rfl (c := 29) rfl (by decide) ?_
    refine p_push (v := .int 0) rfl ?_
    refine p_ald rfl rfl ?_
    refine p_ald rfl rfl ?_
    refine pm_getp hΦ rfl (c := 29) rfl (by decide) ?_
    refine p_push (v := .int 0) rfl ?_
    refine pm_aldi hΦ (c := 29) (n := 24) rfl (by decide) rfl rfl (by unfold vp_in; decide) rfl ?_
    refine p_ald rfl rfl ?_
    refine pm_getp hΦ rfl (c := 17) rfl (by decide) ?_
    refine p_ild rfl rfl ?_
    obtain ⟨g, h⟩ := h
    refine pm_aldi hΦ (c := 17) (n := 8) rfl (by decide) rfl rfl g rfl ?_
    refine p_push (v := .int 2) rfl ?_
    refine p_div rfl (by decide) ?_
    refine p_ald rfl rfl ?_
    refine p_ild rfl rfl ?_
    refine p_ald rfl rfl ?_
    refine pm_getp hΦ rfl (c := 16) rfl (by decide) ?_
    refine p_ild rfl rfl ?_
    obtain ⟨g, h⟩ := h
    refine pm_aldi hΦ (c := 16) (n := 8) rfl (by decide) rfl rfl g rfl ?_
    obtain ⟨r, μ', he, h⟩ := h
    exact p_callV rfl (Nat.le_of_ble_eq_true rfl) rfl rfl (Nat.le_of_ble_eq_true rfl) (ml_kd hΦ) he h
theorem B151_131 {ev : xV} {Q : Option Value → xM → Prop} {m : Nat} {Φ : (Nat → Nat → Int32) → xM} (hΦ : MLaw m Φ) {μ : Nat → Nat → Int32} {x6 x1 x2 x3 x4 x5 s0 s1 s2 s4 : Int32} (h : (∃ r μ', ev 152 [.ref m, .int s2, .int s1, .int s0] (Φ μ) (some (.int r)) (Φ μ') ∧ wpE (xT 151) ev Q (134, [(6, .int x6), (0, .ref m), (1, .int x1), (2, .int x2), (3, .int x3), (4, .int x4), (5, .int x5)], [.int r, .int s4, .ref (m + 29)], Φ μ'))) : wpE (xT 151) ev Q (131, [(6, .int x6), (0, .ref m), (1, .int x1), (2, .int x2), (3, .int x3), (4, .int x4), (5, .int x5)], [.int s0, .int s1, .int s2, .ref m, .int s4, .ref (m + 29)], Φ μ) := by
  obtain ⟨r, μ', he, h⟩ := h
  exact p_callV rfl (Nat.le_of_ble_eq_true rfl) rfl rfl (Nat.le_of_ble_eq_true rfl) (ml_kd hΦ) he h
theorem B151_134 {ev : xV} {Q : Option Value → xM → Prop} {m : Nat} {Φ : (Nat → Nat → Int32) → xM} (hΦ : MLaw m Φ) {μ : Nat → Nat → Int32} {x6 x1 x2 x3 x4 x5 s0 s1 : Int32} (h : vp_in s1 24 ∧ wpE (xT 151) ev Q (138, [(0, .ref m), (1, .int x1), (2, .int x2), (3, .int x3), (4, .int x4), (5, .int x5), (6, .int x6), (7, .int 1)], [], Φ (U μ 29 s1.toNatClampNeg s0))) : wpE (xT 151) ev Q (134, [(6, .int x6), (0, .ref m), (1, .int x1), (2, .int x2), (3, .int x3), (4, .int x4), (5, .int x5)], [.int s0, .int s1, .ref (m + 29)], Φ μ) := by
  obtain ⟨g, h⟩ := h
  refine pm_asti hΦ (c := 29) (n := 24) rfl (by decide) rfl rfl g ?_
  refine p_loc (ls' := [(0, .ref m), (1, .int x1), (2, .int x2), (3, .int x3), (4, .int x4), (5, .int x5), (6, .int x6)]) rfl ?_
  refine p_push (v := .int 1) rfl ?_
  refine p_ist (ls' := [(7, .int 1), (0, .ref m), (1, .int x1), (2, .int x2), (3, .int x3), (4, .int x4), (5, .int x5), (6, .int x6)]) rfl (by decide) rfl ?_
  exact p_loc (ls' := [(0, .ref m), (1, .int x1), (2, .int x2), (3, .int x3), (4, .int x4), (5, .int x5), (6, .int x6), (7, .int 1)]) rfl h
theorem B151_138 {ev : xV} {Q : Option Value → xM → Prop} {m : Nat} {Φ : (Nat → Nat → Int32) → xM} (hΦ : MLaw m Φ) {μ : Nat → Nat → Int32} {x1 x2 x3 x4 x5 x6 x7 : Int32} (h : vp_in x1 8 ∧ (((μ 15 x1.toNatClampNeg) ≤ x7) → (∃ μ', ev 154 [.ref m, .int x1, .int x2, .int x3] (Φ μ) none (Φ μ') ∧ wpE (xT 151) ev Q (188, [(0, .ref m), (1, .int x1), (2, .int x2), (3, .int x3), (4, .int x4), (5, .int x5), (6, .int x6), (7, .int x7)], [], Φ μ'))) ∧ (¬ ((μ 15 x1.toNatClampNeg) ≤ x7) → vp_in (x7 - 1) 24 ∧ (∃ r μ', ev 153 [.ref m, .int x1, .int (x7 - 1)] (Φ μ) (some (.int r)) (Φ μ') ∧ wpE (xT 151) ev Q (173, [(0, .ref m), (1, .int x1), (2, .int x2), (3, .int x3), (4, .int x4), (5, .int x5), (6, .int x6), (7, .int x7)], [.int r, .int (μ 29 (x7 - 1).toNatClampNeg), .int x7, .ref (m + 29)], Φ μ')))) : wpE (xT 151) ev Q (138, [(0, .ref m), (1, .int x1), (2, .int x2), (3, .int x3), (4, .int x4), (5, .int x5), (6, .int x6), (7, .int x7)], [], Φ μ) := by
  refine p_ild rfl rfl ?_
  refine p_ald rfl rfl ?_
  refine pm_getp hΦ rfl (c := 15) rfl (by decide) ?_
  refine p_ild rfl rfl ?_
  obtain ⟨g, h⟩ := h
  refine pm_aldi hΦ (c := 15) (n := 8) rfl (by decide) rfl rfl g rfl ?_
  refine p_icmp rfl (fun c => ?_) (fun c => ?_)
  · have h := h.1 c
    refine p_ald rfl rfl ?_
    refine p_ild rfl rfl ?_
    refine p_ild rfl rfl ?_
    refine p_ild rfl rfl ?_
    obtain ⟨μ', he, h⟩ := h
    exact p_callV rfl (Nat.le_of_ble_eq_true rfl) rfl rfl (Nat.le_of_ble_eq_true rfl) (ml_kd hΦ) he h
  · have h := h.2 c
    refine p_ald rfl rfl ?_
    refine pm_getp hΦ rfl (c := 29) rfl (by decide) ?_
    refine p_ild rfl rfl ?_
    refine p_ald rfl rfl ?_
    refine pm_getp hΦ rfl (c := 29) rfl (by decide) ?_
    refine p_ild rfl rfl ?_
    refine p_push (v := .int 1) rfl ?_
    refine p_bin rfl ?_
    obtain ⟨g, h⟩ := h
    refine pm_aldi hΦ (c := 29) (n := 24) rfl (by decide) rfl rfl g rfl ?_
    refine p_ald rfl rfl ?_
    refine p_ild rfl rfl ?_
    refine p_ild rfl rfl ?_
    refine p_push (v := .int 1) rfl ?_
    refine p_bin rfl ?_
    obtain ⟨r, μ', he, h⟩ := h
    exact p_callV rfl (Nat.le_of_ble_eq_true rfl) rfl rfl (Nat.le_of_ble_eq_true rfl) (ml_kd hΦ) he h
theorem B151_173 {ev : xV} {Q : Option Value → xM → Prop} {m : Nat} {Φ : (Nat → Nat → Int32) → xM} (hΦ : MLaw m Φ) {μ : Nat → Nat → Int32} {x1 x2 x3 x4 x5 x6 x7 s0 s1 s2 : Int32} (h : vp_in s2 24 ∧ wpE (xT 151) ev Q (138, [(0, .ref m), (1, .int x1), (2, .int x2), (3, .int x3), (4, .int x4), (5, .int x5), (6, .int x6), (7, .int (x7 + 1))], [], Φ (U μ 29 s2.toNatClampNeg (s1 + s0)))) : wpE (xT 151) ev Q (173, [(0, .ref m), (1, .int x1), (2, .int x2), (3, .int x3), (4, .int x4), (5, .int x5), (6, .int x6), (7, .int x7)], [.int s0, .int s1, .int s2, .ref (m + 29)], Φ μ) := by
  refine p_bin rfl ?_
  obtain ⟨g, h⟩ := h
  refine pm_asti hΦ (c := 29) (n := 24) rfl (by decide) rfl rfl g ?_
  refine p_iinc (y := x7 + 1) (ls' := [(7, .int (x7 + 1)), (0, .ref m), (1, .int x1), (2, .int x2), (3, .int x3), (4, .int x4), (5, .int x5), (6, .int x6)]) rfl (by decide) rfl rfl rfl ?_
  refine p_goto rfl ?_
  exact p_loc (ls' := [(0, .ref m), (1, .int x1), (2, .int x2), (3, .int x3), (4, .int x4), (5, .int x5), (6, .int x6), (7, .int (x7 + 1))]) rfl h
theorem B151_188 {ev : xV} {Q : Option Value → xM → Prop} {m : Nat} {Φ : (Nat → Nat → Int32) → xM} (hΦ : MLaw m Φ) {μ : Nat → Nat → Int32} {x1 x2 x3 x4 x5 x6 x7 : Int32} (h : (((μ 0 41) ≤ (μ 30 0.toNatClampNeg)) → wpE (xT 151) ev Q (40, [(0, .ref m), (1, .int x1), (2, .int x2), (3, .int x3), (4, .int x4), (5, .int (x5 + 1))], [], Φ μ)) ∧ (¬ ((μ 0 41) ≤ (μ 30 0.toNatClampNeg)) → (∃ μ', ev 158 [.ref m, .int x1, .int x5, .int x6] (Φ μ) none (Φ μ') ∧ wpE (xT 151) ev Q (210, [(0, .ref m), (1, .int x1), (2, .int x2), (3, .int x3), (4, .int x4), (5, .int x5), (6, .int x6), (7, .int x7)], [], Φ μ')))) : wpE (xT 151) ev Q (188, [(0, .ref m), (1, .int x1), (2, .int x2), (3, .int x3), (4, .int x4), (5, .int x5), (6, .int x6), (7, .int x7)], [], Φ μ) := by
  refine p_ald rfl rfl ?_
  refine pm_getp hΦ rfl (c := 30) rfl (by decide) ?_
  refine p_push (v := .int 0) rfl ?_
  refine pm_aldi hΦ (c := 30) (n := 4800) rfl (by decide) rfl rfl (by unfold vp_in; decide) rfl ?_
  refine p_ald rfl rfl ?_
  refine pm_geti hΦ (v := μ 0 41) rfl rfl ?_
  refine p_icmp rfl (fun c => ?_) (fun c => ?_)
  · have h := h.1 c
    refine p_loc (ls' := [(0, .ref m), (1, .int x1), (2, .int x2), (3, .int x3), (4, .int x4), (5, .int x5)]) rfl ?_
    refine p_iinc (y := x5 + 1) (ls' := [(5, .int (x5 + 1)), (0, .ref m), (1, .int x1), (2, .int x2), (3, .int x3), (4, .int x4)]) rfl (by decide) rfl rfl rfl ?_
    refine p_goto rfl ?_
    exact p_loc (ls' := [(0, .ref m), (1, .int x1), (2, .int x2), (3, .int x3), (4, .int x4), (5, .int (x5 + 1))]) rfl h
  · have h := h.2 c
    refine p_ald rfl rfl ?_
    refine p_ild rfl rfl ?_
    refine p_ild rfl rfl ?_
    refine p_ild rfl rfl ?_
    obtain ⟨μ', he, h⟩ := h
    exact p_callV rfl (Nat.le_of_ble_eq_true rfl) rfl rfl (Nat.le_of_ble_eq_true rfl) (ml_kd hΦ) he h
theorem B151_210 {ev : xV} {Q : Option Value → xM → Prop} {m : Nat} {Φ : (Nat → Nat → Int32) → xM} (hΦ : MLaw m Φ) {μ : Nat → Nat → Int32} {x1 x2 x3 x4 x5 x6 x7 : Int32} (h : wpE (xT 151) ev Q (40, [(0, .ref m), (1, .int x1), (2, .int x2), (3, .int x3), (4, .int x4), (5, .int (x5 + 1))], [], Φ μ)) : wpE (xT 151) ev Q (210, [(0, .ref m), (1, .int x1), (2, .int x2), (3, .int x3), (4, .int x4), (5, .int x5), (6, .int x6), (7, .int x7)], [], Φ μ) := by
  refine p_iinc (y := x5 + 1) (ls' := [(5, .int (x5 + 1)), (0, .ref m), (1, .int x1), (2, .int x2), (3, .int x3), (4, .int x4), (6, .int x6), (7, .int x7)]) rfl (by decide) rfl rfl rfl ?_
  refine p_goto rfl ?_
  exact p_loc (ls' := [(0, .ref m), (1, .int x1), (2, .int x2), (3, .int x3), (4, .int x4), (5, .int (x5 + 1))]) rfl h
theorem B152_0 {ev : xV} {Q : Option Value → xM → Prop} {m : Nat} {Φ : (Nat → Nat → Int32) → xM} (hΦ : MLaw m Φ) {μ : Nat → Nat → Int32} {x1 x2 x3 : Int32} (h : (¬ (μ 0 32) = 0) ∧ ((0 ≤ (((x3 - x2) - x1) - ((x3 - x2) - x1) / (μ 0 32) * (μ 0 32))) → Q (some (.int (x1 + (((x3 - x2) - x1) - ((x3 - x2) - x1) / (μ 0 32) * (μ 0 32))))) (Φ μ)) ∧ (¬ (0 ≤ (((x3 - x2) - x1) - ((x3 - x2) - x1) / (μ 0 32) * (μ 0 32))) → Q (some (.int (x1 + ((((x3 - x2) - x1) - ((x3 - x2) - x1) / (μ 0 32) * (μ 0 32)) + (μ 0 32))))) (Φ μ))) : wpE (xT 152) ev Q (0, [(0, .ref m), (1, .int x1), (2, .int x2), (3, .int x3)], [], Φ μ) := by
  refine p_ild rfl rfl ?_
  refine p_ild rfl rfl ?_
  refine p_bin rfl ?_
  refine p_ild rfl rfl ?_
  refine p_bin rfl ?_
  refine p_ald rfl rfl ?_
  refine pm_geti hΦ (v := μ 0 32) rfl rfl ?_
  obtain ⟨g, h⟩ := h
  refine p_div rfl g ?_
  refine p_ist (ls' := [(4, .int (((x3 - x2) - x1) - ((x3 - x2) - x1) / (μ 0 32) * (μ 0 32))), (0, .ref m), (1, .int x1), (2, .int x2), (3, .int x3)]) rfl (by decide) rfl ?_
  refine p_ild rfl rfl ?_
  refine p_ild rfl rfl ?_
  refine p_if rfl (fun c => ?_) (fun c => ?_)
  · have h := h.1 c
    refine p_ild rfl rfl ?_
    refine p_loc (ls' := []) rfl ?_
    refine p_bin rfl ?_
    exact p_ri rfl trivial h
  · have h := h.2 c
    refine p_ild rfl rfl ?_
    refine p_ald rfl rfl ?_
    refine pm_geti hΦ (v := μ 0 32) rfl rfl ?_
    refine p_bin rfl ?_
    refine p_goto rfl ?_
    refine p_loc (ls' := []) rfl ?_
    refine p_bin rfl ?_
    exact p_ri rfl trivial h
theorem B153_0 {ev : xV} {Q : Option Value → xM → Prop} {m : Nat} {Φ : (Nat → Nat → Int32) → xM} (hΦ : MLaw m Φ) {μ : Nat → Nat → Int32} {x1 x2 : Int32} (h : vp_in x1 8 ∧ (((μ 11 x1.toNatClampNeg) = 5) → vp_in x1 8 ∧ ((x2 = ((μ 15 x1.toNatClampNeg) - 2)) → vp_in x1 8 ∧ Q (some (.int (μ 17 x1.toNatClampNeg))) (Φ μ)) ∧ (¬ (x2 = ((μ 15 x1.toNatClampNeg) - 2)) → Q (some (.int 0)) (Φ μ))) ∧ (¬ ((μ 11 x1.toNatClampNeg) = 5) → vp_in x1 8 ∧ (((μ 11 x1.toNatClampNeg) = 1) → Q (some (.int 0)) (Φ μ)) ∧ (¬ ((μ 11 x1.toNatClampNeg) = 1) → vp_in x1 8 ∧ (((μ 11 x1.toNatClampNeg) = 3) → Q (some (.int 0)) (Φ μ)) ∧ (¬ ((μ 11 x1.toNatClampNeg) = 3) → vp_in x1 8 ∧ (((μ 11 x1.toNatClampNeg) = 0) → vp_in x1 8 ∧ Q (some (.int (μ 17 x1.toNatClampNeg))) (Φ μ)) ∧ (¬ ((μ 11 x1.toNatClampNeg) = 0) → vp_in x1 8 ∧ Q (some (.int ((μ 17 x1.toNatClampNeg) + (μ 0 32)))) (Φ μ)))))) : wpE (xT 153) ev Q (0, [(0, .ref m), (1, .int x1), (2, .int x2)], [], Φ μ) := by
  refine p_ald rfl rfl ?_
  refine pm_getp hΦ rfl (c := 11) rfl (by decide) ?_
  refine p_ild rfl rfl ?_
  obtain ⟨g, h⟩ := h
  refine pm_aldi hΦ (c := 11) (n := 8) rfl (by decide) rfl rfl g rfl ?_
  refine p_push (v := .int 5) rfl ?_
  refine p_icmp rfl (fun c => ?_) (fun c => ?_)
  · have h := h.1 c
    refine p_ild rfl rfl ?_
    refine p_ald rfl rfl ?_
    refine pm_getp hΦ rfl (c := 15) rfl (by decide) ?_
    refine p_ild rfl rfl ?_
    obtain ⟨g, h⟩ := h
    refine pm_aldi hΦ (c := 15) (n := 8) rfl (by decide) rfl rfl g rfl ?_
    refine p_push (v := .int 2) rfl ?_
    refine p_bin rfl ?_
    refine p_icmp rfl (fun c => ?_) (fun c => ?_)
    · have h := h.1 c
      refine p_ald rfl rfl ?_
      refine pm_getp hΦ rfl (c := 17) rfl (by decide) ?_
      refine p_ild rfl rfl ?_
      obtain ⟨g, h⟩ := h
      refine pm_aldi hΦ (c := 17) (n := 8) rfl (by decide) rfl rfl g rfl ?_
      refine p_goto rfl ?_
      refine p_loc (ls' := []) rfl ?_
      exact p_ri rfl trivial h
    · have h := h.2 c
      refine p_push (v := .int 0) rfl ?_
      refine p_loc (ls' := []) rfl ?_
      exact p_ri rfl trivial h
  · have h := h.2 c
    refine p_ald rfl rfl ?_
    refine pm_getp hΦ rfl (c := 11) rfl (by decide) ?_
    refine p_ild rfl rfl ?_
    obtain ⟨g, h⟩ := h
    refine pm_aldi hΦ (c := 11) (n := 8) rfl (by decide) rfl rfl g rfl ?_
    refine p_push (v := .int 1) rfl ?_
    refine p_icmp rfl (fun c => ?_) (fun c => ?_)
    · have h := h.1 c
      refine p_loc (ls' := []) rfl ?_
      refine p_push (v := .int 0) rfl ?_
      refine p_goto rfl ?_
      exact p_ri rfl trivial h
    · have h := h.2 c
      refine p_ald rfl rfl ?_
      refine pm_getp hΦ rfl (c := 11) rfl (by decide) ?_
      refine p_ild rfl rfl ?_
      obtain ⟨g, h⟩ := h
      refine pm_aldi hΦ (c := 11) (n := 8) rfl (by decide) rfl rfl g rfl ?_
      refine p_push (v := .int 3) rfl ?_
      refine p_icmp rfl (fun c => ?_) (fun c => ?_)
      · have h := h.1 c
        refine p_loc (ls' := []) rfl ?_
        refine p_push (v := .int 0) rfl ?_
        refine p_goto rfl ?_
        exact p_ri rfl trivial h
      · have h := h.2 c
        refine p_ald rfl rfl ?_
        refine pm_getp hΦ rfl (c := 11) rfl (by decide) ?_
        refine p_ild rfl rfl ?_
        obtain ⟨g, h⟩ := h
        refine pm_aldi hΦ (c := 11) (n := 8) rfl (by decide) rfl rfl g rfl ?_
        refine p_if rfl (fun c => ?_) (fun c => ?_)
        · have h := h.1 c
          refine p_ald rfl rfl ?_
          refine pm_getp hΦ rfl (c := 17) rfl (by decide) ?_
          refine p_ild rfl rfl ?_
          obtain ⟨g, h⟩ := h
          refine pm_aldi hΦ (c := 17) (n := 8) rfl (by decide) rfl rfl g rfl ?_
          refine p_goto rfl ?_
          refine p_loc (ls' := []) rfl ?_
          exact p_ri rfl trivial h
        · have h := h.2 c
          refine p_ald rfl rfl ?_
          refine pm_getp hΦ rfl (c := 17) rfl (by decide) ?_
          refine p_ild rfl rfl ?_
          obtain ⟨g, h⟩ := h
          refine pm_aldi hΦ (c := 17) (n := 8) rfl (by decide) rfl rfl g rfl ?_
          refine p_ald rfl rfl ?_
          refine pm_geti hΦ (v := μ 0 32) rfl rfl ?_
          refine p_bin rfl ?_
          refine p_loc (ls' := []) rfl ?_
          exact p_ri rfl trivial h
theorem B154_0 {ev : xV} {Q : Option Value → xM → Prop} {m : Nat} {Φ : (Nat → Nat → Int32) → xM} (hΦ : MLaw m Φ) {μ : Nat → Nat → Int32} {x1 x2 x3 : Int32} (h : vp_in x1 8 ∧ wpE (xT 154) ev Q (14, [(0, .ref m), (1, .int x1), (2, .int x2), (3, .int x3), (4, .int (μ 15 x1.toNatClampNeg)), (5, .int ((μ 15 x1.toNatClampNeg) - 1))], [], Φ μ)) : wpE (xT 154) ev Q (0, [(0, .ref m), (1, .int x1), (2, .int x2), (3, .int x3)], [], Φ μ) := by
  refine p_ald rfl rfl ?_
  refine pm_getp hΦ rfl (c := 15) rfl (by decide) ?_
  refine p_ild rfl rfl ?_
  obtain ⟨g, h⟩ := h
  refine pm_aldi hΦ (c := 15) (n := 8) rfl (by decide) rfl rfl g rfl ?_
  refine p_ist (ls' := [(4, .int (μ 15 x1.toNatClampNeg)), (0, .ref m), (1, .int x1), (2, .int x2), (3, .int x3)]) rfl (by decide) rfl ?_
  refine p_ild rfl rfl ?_
  refine p_push (v := .int 1) rfl ?_
  refine p_bin rfl ?_
  refine p_ist (ls' := [(5, .int ((μ 15 x1.toNatClampNeg) - 1)), (4, .int (μ 15 x1.toNatClampNeg)), (0, .ref m), (1, .int x1), (2, .int x2), (3, .int x3)]) rfl (by decide) rfl ?_
  exact p_loc (ls' := [(0, .ref m), (1, .int x1), (2, .int x2), (3, .int x3), (4, .int (μ 15 x1.toNatClampNeg)), (5, .int ((μ 15 x1.toNatClampNeg) - 1))]) rfl h
theorem B154_14 {ev : xV} {Q : Option Value → xM → Prop} {m : Nat} {Φ : (Nat → Nat → Int32) → xM} (hΦ : MLaw m Φ) {μ : Nat → Nat → Int32} {x1 x2 x3 x4 x5 : Int32} (h : ((x5 < 0) → Q none (Φ μ)) ∧ (¬ (x5 < 0) → wpE (xT 154) ev Q (22, [(0, .ref m), (1, .int x1), (2, .int x2), (3, .int x3), (4, .int x4), (5, .int x5), (6, .int 0)], [], Φ μ))) : wpE (xT 154) ev Q (14, [(0, .ref m), (1, .int x1), (2, .int x2), (3, .int x3), (4, .int x4), (5, .int x5)], [], Φ μ) := by
  refine p_ild rfl rfl ?_
  refine p_if rfl (fun c => ?_) (fun c => ?_)
  · have h := h.1 c
    exact p_rv rfl h
  · have h := h.2 c
    refine p_push (v := .int 0) rfl ?_
    refine p_ist (ls' := [(6, .int 0), (0, .ref m), (1, .int x1), (2, .int x2), (3, .int x3), (4, .int x4), (5, .int x5)]) rfl (by decide) rfl ?_
    exact p_loc (ls' := [(0, .ref m), (1, .int x1), (2, .int x2), (3, .int x3), (4, .int x4), (5, .int x5), (6, .int 0)]) rfl h
theorem B154_22 {ev : xV} {Q : Option Value → xM → Prop} {m : Nat} {Φ : (Nat → Nat → Int32) → xM} (hΦ : MLaw m Φ) {μ : Nat → Nat → Int32} {x1 x2 x3 x4 x5 x6 : Int32} (h : ((200 ≤ x6) → wpE (xT 154) ev Q (14, [(0, .ref m), (1, .int x1), (2, .int x2), (3, .int x3), (4, .int x4), (5, .int (x5 + (-1)))], [], Φ μ)) ∧ (¬ (200 ≤ x6) → vp_in x5 24 ∧ vp_in ((200 * x5) + x6) 4800 ∧ vp_in x1 8 ∧ vp_in x2 5 ∧ ((((U μ 30 (((200 * x5) + x6).toNatClampNeg) 1000000) 8 x2.toNatClampNeg) < (((μ 29 x5.toNatClampNeg) + (x6 * (μ 0 32))) + ((U μ 30 (((200 * x5) + x6).toNatClampNeg) 1000000) 17 x1.toNatClampNeg))) → wpE (xT 154) ev Q (22, [(0, .ref m), (1, .int x1), (2, .int x2), (3, .int x3), (4, .int x4), (5, .int x5), (6, .int (x6 + 1))], [], Φ (U μ 30 (((200 * x5) + x6).toNatClampNeg) 1000000))) ∧ (¬ (((U μ 30 (((200 * x5) + x6).toNatClampNeg) 1000000) 8 x2.toNatClampNeg) < (((μ 29 x5.toNatClampNeg) + (x6 * (μ 0 32))) + ((U μ 30 (((200 * x5) + x6).toNatClampNeg) 1000000) 17 x1.toNatClampNeg))) → vp_in x1 8 ∧ (∃ r μ', ev 144 [.ref m, .int x2, .int ((μ 29 x5.toNatClampNeg) + (x6 * (μ 0 32))), .int ((U μ 30 (((200 * x5) + x6).toNatClampNeg) 1000000) 17 x1.toNatClampNeg)] (Φ (U μ 30 (((200 * x5) + x6).toNatClampNeg) 1000000)) (some (.int r)) (Φ μ') ∧ wpE (xT 154) ev Q (94, [(7, .int ((μ 29 x5.toNatClampNeg) + (x6 * (μ 0 32)))), (0, .ref m), (1, .int x1), (2, .int x2), (3, .int x3), (4, .int x4), (5, .int x5), (6, .int x6)], [.int r], Φ μ'))))) : wpE (xT 154) ev Q (22, [(0, .ref m), (1, .int x1), (2, .int x2), (3, .int x3), (4, .int x4), (5, .int x5), (6, .int x6)], [], Φ μ) := by
  refine p_ild rfl rfl ?_
  refine p_push (v := .int 200) rfl ?_
  refine p_icmp rfl (fun c => ?_) (fun c => ?_)
  · have h := h.1 c
    refine p_iinc (y := x5 + (-1)) (ls' := [(5, .int (x5 + (-1))), (0, .ref m), (1, .int x1), (2, .int x2), (3, .int x3), (4, .int x4), (6, .int x6)]) rfl (by decide) rfl rfl rfl ?_
    refine p_goto rfl ?_
    exact p_loc (ls' := [(0, .ref m), (1, .int x1), (2, .int x2), (3, .int x3), (4, .int x4), (5, .int (x5 + (-1)))]) rfl h
  · have h := h.2 c
    refine p_ald rfl rfl ?_
    refine pm_getp hΦ rfl (c := 29) rfl (by decide) ?_
    refine p_ild rfl rfl ?_
    obtain ⟨g, h⟩ := h
    refine pm_aldi hΦ (c := 29) (n := 24) rfl (by decide) rfl rfl g rfl ?_
    refine p_ild rfl rfl ?_
    refine p_ald rfl rfl ?_
    refine pm_geti hΦ (v := μ 0 32) rfl rfl ?_
    refine p_bin rfl ?_
    refine p_bin rfl ?_
    refine p_ist (ls' := [(7, .int ((μ 29 x5.toNatClampNeg) + (x6 * (μ 0 32)))), (0, .ref m), (1, .int x1), (2, .int x2), (3, .int x3), (4, .int x4), (5, .int x5), (6, .int x6)]) rfl (by decide) rfl ?_
    refine p_ald rfl rfl ?_
    refine pm_getp hΦ rfl (c := 30) rfl (by decide) ?_
    refine p_push (v := .int 200) rfl ?_
    refine p_ild rfl rfl ?_
    refine p_bin rfl ?_
    refine p_ild rfl rfl ?_
    refine p_bin rfl ?_
    refine p_push (v := .int 1000000) rfl ?_
    obtain ⟨g, h⟩ := h
    refine pm_asti hΦ (c := 30) (n := 4800) rfl (by decide) rfl rfl g ?_
    refine p_ild rfl rfl ?_
    refine p_ald rfl rfl ?_
    refine pm_getp hΦ rfl (c := 17) rfl (by decide) ?_
    refine p_ild rfl rfl ?_
    obtain ⟨g, h⟩ := h
    refine pm_aldi hΦ (c := 17) (n := 8) rfl (by decide) rfl rfl g rfl ?_
    refine p_bin rfl ?_
    refine p_ald rfl rfl ?_
    refine pm_getp hΦ rfl (c := 8) rfl (by decide) ?_
    refine p_ild rfl rfl ?_
    obtain ⟨g, h⟩ := h
    refine pm_aldi hΦ (c := 8) (n := 5) rfl (by decide) rfl rfl g rfl ?_
    refine p_icmp rfl (fun c => ?_) (fun c => ?_)
    · have h := h.1 c
      refine p_loc (ls' := [(0, .ref m), (1, .int x1), (2, .int x2), (3, .int x3), (4, .int x4), (5, .int x5), (6, .int x6)]) rfl ?_
      refine p_iinc (y := x6 + 1) (ls' := [(6, .int (x6 + 1)), (0, .ref m), (1, .int x1), (2, .int x2), (3, .int x3), (4, .int x4), (5, .int x5)]) rfl (by decide) rfl rfl rfl ?_
      refine p_goto rfl ?_
      exact p_loc (ls' := [(0, .ref m), (1, .int x1), (2, .int x2), (3, .int x3), (4, .int x4), (5, .int x5), (6, .int (x6 + 1))]) rfl h
    · have h := h.2 c
      refine p_ald rfl rfl ?_
      refine p_ild rfl rfl ?_
      refine p_ild rfl rfl ?_
      refine p_ald rfl rfl ?_
      refine pm_getp hΦ rfl (c := 17) rfl (by decide) ?_
      refine p_ild rfl rfl ?_
      obtain ⟨g, h⟩ := h
      refine pm_aldi hΦ (c := 17) (n := 8) rfl (by decide) rfl rfl g rfl ?_
      obtain ⟨r, μ', he, h⟩ := h
      exact p_callV rfl (Nat.le_of_ble_eq_true rfl) rfl rfl (Nat.le_of_ble_eq_true rfl) (ml_kd hΦ) he h
theorem B154_94 {ev : xV} {Q : Option Value → xM → Prop} {m : Nat} {Φ : (Nat → Nat → Int32) → xM} (hΦ : MLaw m Φ) {μ : Nat → Nat → Int32} {x7 x1 x2 x3 x4 x5 x6 s0 : Int32} (h : ((s0 = 0) → ((x5 = (x4 - 1)) → (∃ r μ', ev 155 [.ref m, .int x1, .int x2, .int x3, .int x7] (Φ μ) (some (.int r)) (Φ μ') ∧ wpE (xT 154) ev Q (131, [(7, .int x7), (0, .ref m), (1, .int x1), (2, .int x2), (3, .int x3), (4, .int x4), (5, .int x5), (6, .int x6)], [.int r, .int ((200 * x5) + x6), .ref (m + 30)], Φ μ'))) ∧ (¬ (x5 = (x4 - 1)) → wpE (xT 154) ev Q (138, [(0, .ref m), (1, .int x1), (2, .int x2), (3, .int x3), (4, .int x4), (5, .int x5), (6, .int x6), (8, .int 1)], [], Φ μ))) ∧ (¬ (s0 = 0) → wpE (xT 154) ev Q (22, [(0, .ref m), (1, .int x1), (2, .int x2), (3, .int x3), (4, .int x4), (5, .int x5), (6, .int (x6 + 1))], [], Φ μ))) : wpE (xT 154) ev Q (94, [(7, .int x7), (0, .ref m), (1, .int x1), (2, .int x2), (3, .int x3), (4, .int x4), (5, .int x5), (6, .int x6)], [.int s0], Φ μ) := by
  refine p_if rfl (fun c => ?_) (fun c => ?_)
  · have h := h.1 c
    refine p_ild rfl rfl ?_
    refine p_ild rfl rfl ?_
    refine p_push (v := .int 1) rfl ?_
    refine p_bin rfl ?_
    refine p_icmp rfl (fun c => ?_) (fun c => ?_)
    · have h := h.1 c
      refine p_ald rfl rfl ?_
      refine pm_getp hΦ rfl (c := 30) rfl (by decide) ?_
      refine p_push (v := .int 200) rfl ?_
      refine p_ild rfl rfl ?_
      refine p_bin rfl ?_
      refine p_ild rfl rfl ?_
      refine p_bin rfl ?_
      refine p_ald rfl rfl ?_
      refine p_ild rfl rfl ?_
      refine p_ild rfl rfl ?_
      refine p_ild rfl rfl ?_
      refine p_ild rfl rfl ?_
      obtain ⟨r, μ', he, h⟩ := h
      exact p_callV rfl (Nat.le_of_ble_eq_true rfl) rfl rfl (Nat.le_of_ble_eq_true rfl) (ml_kd hΦ) he h
    · have h := h.2 c
      refine p_push (v := .int 1) rfl ?_
      refine p_ist (ls' := [(8, .int 1), (7, .int x7), (0, .ref m), (1, .int x1), (2, .int x2), (3, .int x3), (4, .int x4), (5, .int x5), (6, .int x6)]) rfl (by decide) rfl ?_
      exact p_loc (ls' := [(0, .ref m), (1, .int x1), (2, .int x2), (3, .int x3), (4, .int x4), (5, .int x5), (6, .int x6), (8, .int 1)]) rfl h
  · have h := h.2 c
    refine p_goto rfl ?_
    refine p_loc (ls' := [(0, .ref m), (1, .int x1), (2, .int x2), (3, .int x3), (4, .int x4), (5, .int x5), (6, .int x6)]) rfl ?_
    refine p_iinc (y := x6 + 1) (ls' := [(6, .int (x6 + 1)), (0, .ref m), (1, .int x1), (2, .int x2), (3, .int x3), (4, .int x4), (5, .int x5)]) rfl (by decide) rfl rfl rfl ?_
    refine p_goto rfl ?_
    exact p_loc (ls' := [(0, .ref m), (1, .int x1), (2, .int x2), (3, .int x3), (4, .int x4), (5, .int x5), (6, .int (x6 + 1))]) rfl h
theorem B154_131 {ev : xV} {Q : Option Value → xM → Prop} {m : Nat} {Φ : (Nat → Nat → Int32) → xM} (hΦ : MLaw m Φ) {μ : Nat → Nat → Int32} {x7 x1 x2 x3 x4 x5 x6 s0 s1 : Int32} (h : vp_in s1 4800 ∧ wpE (xT 154) ev Q (22, [(0, .ref m), (1, .int x1), (2, .int x2), (3, .int x3), (4, .int x4), (5, .int x5), (6, .int (x6 + 1))], [], Φ (U μ 30 s1.toNatClampNeg s0))) : wpE (xT 154) ev Q (131, [(7, .int x7), (0, .ref m), (1, .int x1), (2, .int x2), (3, .int x3), (4, .int x4), (5, .int x5), (6, .int x6)], [.int s0, .int s1, .ref (m + 30)], Φ μ) := by
  obtain ⟨g, h⟩ := h
  refine pm_asti hΦ (c := 30) (n := 4800) rfl (by decide) rfl rfl g ?_
  refine p_goto rfl ?_
  refine p_loc (ls' := [(0, .ref m), (1, .int x1), (2, .int x2), (3, .int x3), (4, .int x4), (5, .int x5), (6, .int x6)]) rfl ?_
  refine p_iinc (y := x6 + 1) (ls' := [(6, .int (x6 + 1)), (0, .ref m), (1, .int x1), (2, .int x2), (3, .int x3), (4, .int x4), (5, .int x5)]) rfl (by decide) rfl rfl rfl ?_
  refine p_goto rfl ?_
  exact p_loc (ls' := [(0, .ref m), (1, .int x1), (2, .int x2), (3, .int x3), (4, .int x4), (5, .int x5), (6, .int (x6 + 1))]) rfl h
theorem B154_138 {ev : xV} {Q : Option Value → xM → Prop} {m : Nat} {Φ : (Nat → Nat → Int32) → xM} (hΦ : MLaw m Φ) {μ : Nat → Nat → Int32} {x1 x2 x3 x4 x5 x6 x8 : Int32} (h : ((4 < x8) → wpE (xT 154) ev Q (22, [(0, .ref m), (1, .int x1), (2, .int x2), (3, .int x3), (4, .int x4), (5, .int x5), (6, .int (x6 + 1))], [], Φ μ)) ∧ (¬ (4 < x8) → (∃ r μ', ev 156 [.ref m, .int x1, .int x5, .int x6, .int x8] (Φ μ) (some (.int r)) (Φ μ') ∧ wpE (xT 154) ev Q (155, [(0, .ref m), (1, .int x1), (2, .int x2), (3, .int x3), (4, .int x4), (5, .int x5), (6, .int x6), (8, .int x8)], [.int r], Φ μ')))) : wpE (xT 154) ev Q (138, [(0, .ref m), (1, .int x1), (2, .int x2), (3, .int x3), (4, .int x4), (5, .int x5), (6, .int x6), (8, .int x8)], [], Φ μ) := by
  refine p_ild rfl rfl ?_
  refine p_push (v := .int 4) rfl ?_
  refine p_icmp rfl (fun c => ?_) (fun c => ?_)
  · have h := h.1 c
    refine p_loc (ls' := [(0, .ref m), (1, .int x1), (2, .int x2), (3, .int x3), (4, .int x4), (5, .int x5), (6, .int x6)]) rfl ?_
    refine p_iinc (y := x6 + 1) (ls' := [(6, .int (x6 + 1)), (0, .ref m), (1, .int x1), (2, .int x2), (3, .int x3), (4, .int x4), (5, .int x5)]) rfl (by decide) rfl rfl rfl ?_
    refine p_goto rfl ?_
    exact p_loc (ls' := [(0, .ref m), (1, .int x1), (2, .int x2), (3, .int x3), (4, .int x4), (5, .int x5), (6, .int (x6 + 1))]) rfl h
  · have h := h.2 c
    refine p_ald rfl rfl ?_
    refine p_ild rfl rfl ?_
    refine p_ild rfl rfl ?_
    refine p_ild rfl rfl ?_
    refine p_ild rfl rfl ?_
    obtain ⟨r, μ', he, h⟩ := h
    exact p_callV rfl (Nat.le_of_ble_eq_true rfl) rfl rfl (Nat.le_of_ble_eq_true rfl) (ml_kd hΦ) he h
theorem B154_155 {ev : xV} {Q : Option Value → xM → Prop} {m : Nat} {Φ : (Nat → Nat → Int32) → xM} (hΦ : MLaw m Φ) {μ : Nat → Nat → Int32} {x1 x2 x3 x4 x5 x6 x8 s0 : Int32} (h : ((200 ≤ s0) → wpE (xT 154) ev Q (138, [(0, .ref m), (1, .int x1), (2, .int x2), (3, .int x3), (4, .int x4), (5, .int x5), (6, .int x6), (8, .int (x8 + 1))], [], Φ μ)) ∧ (¬ (200 ≤ s0) → vp_in ((200 * (x5 + 1)) + s0) 4800 ∧ vp_in ((200 * x5) + x6) 4800 ∧ (((μ 30 ((200 * x5) + x6).toNatClampNeg) ≤ (μ 30 ((200 * (x5 + 1)) + s0).toNatClampNeg)) → wpE (xT 154) ev Q (138, [(0, .ref m), (1, .int x1), (2, .int x2), (3, .int x3), (4, .int x4), (5, .int x5), (6, .int x6), (8, .int (x8 + 1))], [], Φ μ)) ∧ (¬ ((μ 30 ((200 * x5) + x6).toNatClampNeg) ≤ (μ 30 ((200 * (x5 + 1)) + s0).toNatClampNeg)) → vp_in ((200 * (x5 + 1)) + s0) 4800 ∧ vp_in ((200 * x5) + x6) 4800 ∧ wpE (xT 154) ev Q (138, [(0, .ref m), (1, .int x1), (2, .int x2), (3, .int x3), (4, .int x4), (5, .int x5), (6, .int x6), (8, .int (x8 + 1))], [], Φ (U μ 30 (((200 * x5) + x6).toNatClampNeg) (μ 30 ((200 * (x5 + 1)) + s0).toNatClampNeg)))))) : wpE (xT 154) ev Q (155, [(0, .ref m), (1, .int x1), (2, .int x2), (3, .int x3), (4, .int x4), (5, .int x5), (6, .int x6), (8, .int x8)], [.int s0], Φ μ) := by
  refine p_ist (ls' := [(9, .int s0), (0, .ref m), (1, .int x1), (2, .int x2), (3, .int x3), (4, .int x4), (5, .int x5), (6, .int x6), (8, .int x8)]) rfl (by decide) rfl ?_
  refine p_ild rfl rfl ?_
  refine p_push (v := .int 200) rfl ?_
  refine p_icmp rfl (fun c => ?_) (fun c => ?_)
  · have h := h.1 c
    refine p_loc (ls' := [(0, .ref m), (1, .int x1), (2, .int x2), (3, .int x3), (4, .int x4), (5, .int x5), (6, .int x6), (8, .int x8)]) rfl ?_
    refine p_iinc (y := x8 + 1) (ls' := [(8, .int (x8 + 1)), (0, .ref m), (1, .int x1), (2, .int x2), (3, .int x3), (4, .int x4), (5, .int x5), (6, .int x6)]) rfl (by decide) rfl rfl rfl ?_
    refine p_goto rfl ?_
    exact p_loc (ls' := [(0, .ref m), (1, .int x1), (2, .int x2), (3, .int x3), (4, .int x4), (5, .int x5), (6, .int x6), (8, .int (x8 + 1))]) rfl h
  · have h := h.2 c
    refine p_ald rfl rfl ?_
    refine pm_getp hΦ rfl (c := 30) rfl (by decide) ?_
    refine p_push (v := .int 200) rfl ?_
    refine p_ild rfl rfl ?_
    refine p_push (v := .int 1) rfl ?_
    refine p_bin rfl ?_
    refine p_bin rfl ?_
    refine p_ild rfl rfl ?_
    refine p_bin rfl ?_
    obtain ⟨g, h⟩ := h
    refine pm_aldi hΦ (c := 30) (n := 4800) rfl (by decide) rfl rfl g rfl ?_
    refine p_ald rfl rfl ?_
    refine pm_getp hΦ rfl (c := 30) rfl (by decide) ?_
    refine p_push (v := .int 200) rfl ?_
    refine p_ild rfl rfl ?_
    refine p_bin rfl ?_
    refine p_ild rfl rfl ?_
    refine p_bin rfl ?_
    obtain ⟨g, h⟩ := h
    refine pm_aldi hΦ (c := 30) (n := 4800) rfl (by decide) rfl rfl g rfl ?_
    refine p_icmp rfl (fun c => ?_) (fun c => ?_)
    · have h := h.1 c
      refine p_loc (ls' := [(0, .ref m), (1, .int x1), (2, .int x2), (3, .int x3), (4, .int x4), (5, .int x5), (6, .int x6), (8, .int x8)]) rfl ?_
      refine p_iinc (y := x8 + 1) (ls' := [(8, .int (x8 + 1)), (0, .ref m), (1, .int x1), (2, .int x2), (3, .int x3), (4, .int x4), (5, .int x5), (6, .int x6)]) rfl (by decide) rfl rfl rfl ?_
      refine p_goto rfl ?_
      exact p_loc (ls' := [(0, .ref m), (1, .int x1), (2, .int x2), (3, .int x3), (4, .int x4), (5, .int x5), (6, .int x6), (8, .int (x8 + 1))]) rfl h
    · have h := h.2 c
      refine p_ald rfl rfl ?_
      refine pm_getp hΦ rfl (c := 30) rfl (by decide) ?_
      refine p_push (v := .int 200) rfl ?_
      refine p_ild rfl rfl ?_
      refine p_bin rfl ?_
      refine p_ild rfl rfl ?_
      refine p_bin rfl ?_
      refine p_ald rfl rfl ?_
      refine pm_getp hΦ rfl (c := 30) rfl (by decide) ?_
      refine p_push (v := .int 200) rfl ?_
      refine p_ild rfl rfl ?_
      refine p_push (v := .int 1) rfl ?_
      refine p_bin rfl ?_
      refine p_bin rfl ?_
      refine p_ild rfl rfl ?_
      refine p_bin rfl ?_
      obtain ⟨g, h⟩ := h
      refine pm_aldi hΦ (c := 30) (n := 4800) rfl (by decide) rfl rfl g rfl ?_
      obtain ⟨g, h⟩ := h
      refine pm_asti hΦ (c := 30) (n := 4800) rfl (by decide) rfl rfl g ?_
      refine p_loc (ls' := [(0, .ref m), (1, .int x1), (2, .int x2), (3, .int x3), (4, .int x4), (5, .int x5), (6, .int x6), (8, .int x8)]) rfl ?_
      refine p_iinc (y := x8 + 1) (ls' := [(8, .int (x8 + 1)), (0, .ref m), (1, .int x1), (2, .int x2), (3, .int x3), (4, .int x4), (5, .int x5), (6, .int x6)]) rfl (by decide) rfl rfl rfl ?_
      refine p_goto rfl ?_
      exact p_loc (ls' := [(0, .ref m), (1, .int x1), (2, .int x2), (3, .int x3), (4, .int x4), (5, .int x5), (6, .int x6), (8, .int (x8 + 1))]) rfl h
theorem B155_0 {ev : xV} {Q : Option Value → xM → Prop} {m : Nat} {Φ : (Nat → Nat → Int32) → xM} (hΦ : MLaw m Φ) {μ : Nat → Nat → Int32} {x1 x2 x3 x4 : Int32} (h : vp_in x1 8 ∧ vp_in x1 8 ∧ (∃ r μ', ev 137 [.ref m, .int x3, .int 0] (Φ μ) (some (.int r)) (Φ μ') ∧ wpE (xT 155) ev Q (24, [(0, .ref m), (1, .int x1), (2, .int x2), (3, .int x3), (4, .int x4)], [.int r, .int ((μ 18 x1.toNatClampNeg) / 2), .int (x4 + (μ 17 x1.toNatClampNeg)), .ref m], Φ μ'))) : wpE (xT 155) ev Q (0, [(0, .ref m), (1, .int x1), (2, .int x2), (3, .int x3), (4, .int x4)], [], Φ μ) := by
  refine p_ald rfl rfl ?_
  refine p_ild rfl rfl ?_
  refine p_ald rfl rfl ?_
  refine pm_getp hΦ rfl (c := 17) rfl (by decide) ?_
  refine p_ild rfl rfl ?_
  obtain ⟨g, h⟩ := h
  refine pm_aldi hΦ (c := 17) (n := 8) rfl (by decide) rfl rfl g rfl ?_
  refine p_bin rfl ?_
  refine p_ald rfl rfl ?_
  refine pm_getp hΦ rfl (c := 18) rfl (by decide) ?_
  refine p_ild rfl rfl ?_
  obtain ⟨g, h⟩ := h
  refine pm_aldi hΦ (c := 18) (n := 8) rfl (by decide) rfl rfl g rfl ?_
  refine p_push (v := .int 2) rfl ?_
  refine p_div rfl (by decide) ?_
  refine p_ald rfl rfl ?_
  refine p_ild rfl rfl ?_
  refine p_push (v := .int 0) rfl ?_
  obtain ⟨r, μ', he, h⟩ := h
  exact p_callV rfl (Nat.le_of_ble_eq_true rfl) rfl rfl (Nat.le_of_ble_eq_true rfl) (ml_kd hΦ) he h
theorem B155_24 {ev : xV} {Q : Option Value → xM → Prop} {m : Nat} {Φ : (Nat → Nat → Int32) → xM} (hΦ : MLaw m Φ) {μ : Nat → Nat → Int32} {x1 x2 x3 x4 s0 s1 s2 : Int32} (h : (∃ r μ', ev 152 [.ref m, .int s2, .int s1, .int s0] (Φ μ) (some (.int r)) (Φ μ') ∧ wpE (xT 155) ev Q (27, [(0, .ref m), (1, .int x1), (2, .int x2), (3, .int x3), (4, .int x4)], [.int r], Φ μ'))) : wpE (xT 155) ev Q (24, [(0, .ref m), (1, .int x1), (2, .int x2), (3, .int x3), (4, .int x4)], [.int s0, .int s1, .int s2, .ref m], Φ μ) := by
  obtain ⟨r, μ', he, h⟩ := h
  exact p_callV rfl (Nat.le_of_ble_eq_true rfl) rfl rfl (Nat.le_of_ble_eq_true rfl) (ml_kd hΦ) he h
theorem B155_27 {ev : xV} {Q : Option Value → xM → Prop} {m : Nat} {Φ : (Nat → Nat → Int32) → xM} (hΦ : MLaw m Φ) {μ : Nat → Nat → Int32} {x1 x2 x3 x4 s0 : Int32} (h : wpE (xT 155) ev Q (32, [(0, .ref m), (1, .int x1), (2, .int x2), (5, .int s0), (6, .int 0)], [], Φ μ)) : wpE (xT 155) ev Q (27, [(0, .ref m), (1, .int x1), (2, .int x2), (3, .int x3), (4, .int x4)], [.int s0], Φ μ) := by
  refine p_ist (ls' := [(5, .int s0), (0, .ref m), (1, .int x1), (2, .int x2), (3, .int x3), (4, .int x4)]) rfl (by decide) rfl ?_
  refine p_push (v := .int 0) rfl ?_
  refine p_ist (ls' := [(6, .int 0), (5, .int s0), (0, .ref m), (1, .int x1), (2, .int x2), (3, .int x3), (4, .int x4)]) rfl (by decide) rfl ?_
  exact p_loc (ls' := [(0, .ref m), (1, .int x1), (2, .int x2), (5, .int s0), (6, .int 0)]) rfl h
theorem B155_32 {ev : xV} {Q : Option Value → xM → Prop} {m : Nat} {Φ : (Nat → Nat → Int32) → xM} (hΦ : MLaw m Φ) {μ : Nat → Nat → Int32} {x1 x2 x5 x6 : Int32} (h : ((4 ≤ x6) → Q (some (.int 1000000)) (Φ μ)) ∧ (¬ (4 ≤ x6) → vp_in x1 8 ∧ vp_in x2 5 ∧ ((((x5 + (x6 * (μ 0 32))) + ((U μ 0 36 x6) 18 x1.toNatClampNeg)) ≤ ((U μ 0 36 x6) 8 x2.toNatClampNeg)) → vp_in x1 8 ∧ (∃ r μ', ev 144 [.ref m, .int x2, .int (x5 + (x6 * (μ 0 32))), .int ((U μ 0 36 x6) 18 x1.toNatClampNeg)] (Φ (U μ 0 36 x6)) (some (.int r)) (Φ μ') ∧ wpE (xT 155) ev Q (90, [(7, .int (x5 + (x6 * (μ 0 32)))), (0, .ref m), (1, .int x1), (2, .int x2), (5, .int x5), (6, .int x6)], [.int r], Φ μ'))) ∧ (¬ (((x5 + (x6 * (μ 0 32))) + ((U μ 0 36 x6) 18 x1.toNatClampNeg)) ≤ ((U μ 0 36 x6) 8 x2.toNatClampNeg)) → Q (some (.int 1000000)) (Φ (U μ 0 36 x6))))) : wpE (xT 155) ev Q (32, [(0, .ref m), (1, .int x1), (2, .int x2), (5, .int x5), (6, .int x6)], [], Φ μ) := by
  refine p_ild rfl rfl ?_
  refine p_push (v := .int 4) rfl ?_
  refine p_icmp rfl (fun c => ?_) (fun c => ?_)
  · have h := h.1 c
    refine p_push (v := .int 1000000) rfl ?_
    exact p_ri rfl trivial h
  · have h := h.2 c
    refine p_ild rfl rfl ?_
    refine p_ild rfl rfl ?_
    refine p_ald rfl rfl ?_
    refine pm_geti hΦ (v := μ 0 32) rfl rfl ?_
    refine p_bin rfl ?_
    refine p_bin rfl ?_
    refine p_ist (ls' := [(7, .int (x5 + (x6 * (μ 0 32)))), (0, .ref m), (1, .int x1), (2, .int x2), (5, .int x5), (6, .int x6)]) rfl (by decide) rfl ?_
    refine p_ald rfl rfl ?_
    refine p_ild rfl rfl ?_
    refine pm_puti hΦ rfl ?_
    refine p_ild rfl rfl ?_
    refine p_ald rfl rfl ?_
    refine pm_getp hΦ rfl (c := 18) rfl (by decide) ?_
    refine p_ild rfl rfl ?_
    obtain ⟨g, h⟩ := h
    refine pm_aldi hΦ (c := 18) (n := 8) rfl (by decide) rfl rfl g rfl ?_
    refine p_bin rfl ?_
    refine p_ald rfl rfl ?_
    refine pm_getp hΦ rfl (c := 8) rfl (by decide) ?_
    refine p_ild rfl rfl ?_
    obtain ⟨g, h⟩ := h
    refine pm_aldi hΦ (c := 8) (n := 5) rfl (by decide) rfl rfl g rfl ?_
    refine p_icmp rfl (fun c => ?_) (fun c => ?_)
    · have h := h.1 c
      refine p_ald rfl rfl ?_
      refine p_ild rfl rfl ?_
      refine p_ild rfl rfl ?_
      refine p_ald rfl rfl ?_
      refine pm_getp hΦ rfl (c := 18) rfl (by decide) ?_
      refine p_ild rfl rfl ?_
      obtain ⟨g, h⟩ := h
      refine pm_aldi hΦ (c := 18) (n := 8) rfl (by decide) rfl rfl g rfl ?_
      obtain ⟨r, μ', he, h⟩ := h
      exact p_callV rfl (Nat.le_of_ble_eq_true rfl) rfl rfl (Nat.le_of_ble_eq_true rfl) (ml_kd hΦ) he h
    · have h := h.2 c
      refine p_push (v := .int 1000000) rfl ?_
      exact p_ri rfl trivial h
theorem B155_90 {ev : xV} {Q : Option Value → xM → Prop} {m : Nat} {Φ : (Nat → Nat → Int32) → xM} (hΦ : MLaw m Φ) {μ : Nat → Nat → Int32} {x7 x1 x2 x5 x6 s0 : Int32} (h : ((s0 = 0) → vp_in x1 8 ∧ Q (some (.int (x7 + (μ 18 x1.toNatClampNeg)))) (Φ μ)) ∧ (¬ (s0 = 0) → wpE (xT 155) ev Q (32, [(0, .ref m), (1, .int x1), (2, .int x2), (5, .int x5), (6, .int (x6 + 1))], [], Φ μ))) : wpE (xT 155) ev Q (90, [(7, .int x7), (0, .ref m), (1, .int x1), (2, .int x2), (5, .int x5), (6, .int x6)], [.int s0], Φ μ) := by
  refine p_if rfl (fun c => ?_) (fun c => ?_)
  · have h := h.1 c
    refine p_ild rfl rfl ?_
    refine p_ald rfl rfl ?_
    refine pm_getp hΦ rfl (c := 18) rfl (by decide) ?_
    refine p_ild rfl rfl ?_
    obtain ⟨g, h⟩ := h
    refine pm_aldi hΦ (c := 18) (n := 8) rfl (by decide) rfl rfl g rfl ?_
    refine p_bin rfl ?_
    exact p_ri rfl trivial h
  · have h := h.2 c
    refine p_iinc (y := x6 + 1) (ls' := [(6, .int (x6 + 1)), (7, .int x7), (0, .ref m), (1, .int x1), (2, .int x2), (5, .int x5)]) rfl (by decide) rfl rfl rfl ?_
    refine p_goto rfl ?_
    exact p_loc (ls' := [(0, .ref m), (1, .int x1), (2, .int x2), (5, .int x5), (6, .int (x6 + 1))]) rfl h
theorem B156_0 {ev : xV} {Q : Option Value → xM → Prop} {m : Nat} {Φ : (Nat → Nat → Int32) → xM} (hΦ : MLaw m Φ) {μ : Nat → Nat → Int32} {x1 x2 x3 x4 : Int32} (h : (∃ r μ', ev 153 [.ref m, .int x1, .int x2] (Φ μ) (some (.int r)) (Φ μ') ∧ wpE (xT 156) ev Q (6, [(0, .ref m), (1, .int x1), (2, .int x2), (3, .int x3), (4, .int x4)], [.int r], Φ μ'))) : wpE (xT 156) ev Q (0, [(0, .ref m), (1, .int x1), (2, .int x2), (3, .int x3), (4, .int x4)], [], Φ μ) := by
  refine p_ald rfl rfl ?_
  refine p_ild rfl rfl ?_
  refine p_ild rfl rfl ?_
  obtain ⟨r, μ', he, h⟩ := h
  exact p_callV rfl (Nat.le_of_ble_eq_true rfl) rfl rfl (Nat.le_of_ble_eq_true rfl) (ml_kd hΦ) he h
theorem B156_6 {ev : xV} {Q : Option Value → xM → Prop} {m : Nat} {Φ : (Nat → Nat → Int32) → xM} (hΦ : MLaw m Φ) {μ : Nat → Nat → Int32} {x1 x2 x3 x4 s0 : Int32} (h : (∃ r μ', ev 157 [.ref m, .int x1, .int x2, .int x4] (Φ μ) (some (.int r)) (Φ μ') ∧ wpE (xT 156) ev Q (14, [(0, .ref m), (1, .int x1), (2, .int x2), (3, .int x3), (4, .int x4)], [.int r, .int s0], Φ μ'))) : wpE (xT 156) ev Q (6, [(0, .ref m), (1, .int x1), (2, .int x2), (3, .int x3), (4, .int x4)], [.int s0], Φ μ) := by
  refine p_ald rfl rfl ?_
  refine p_ild rfl rfl ?_
  refine p_ild rfl rfl ?_
  refine p_ild rfl rfl ?_
  obtain ⟨r, μ', he, h⟩ := h
  exact p_callV rfl (Nat.le_of_ble_eq_true rfl) rfl rfl (Nat.le_of_ble_eq_true rfl) (ml_kd hΦ) he h
theorem B156_14 {ev : xV} {Q : Option Value → xM → Prop} {m : Nat} {Φ : (Nat → Nat → Int32) → xM} (hΦ : MLaw m Φ) {μ : Nat → Nat → Int32} {x1 x2 x3 x4 s0 s1 : Int32} (h : vp_in x1 8 ∧ (((s1 + (s0 * (μ 0 32))) ≤ (μ 17 x1.toNatClampNeg)) → Q (some (.int 200)) (Φ μ)) ∧ (¬ ((s1 + (s0 * (μ 0 32))) ≤ (μ 17 x1.toNatClampNeg)) → (∃ r μ', ev 157 [.ref m, .int x1, .int x2, .int x4] (Φ μ) (some (.int r)) (Φ μ') ∧ wpE (xT 156) ev Q (38, [(0, .ref m), (1, .int x1), (2, .int x2), (3, .int x3), (4, .int x4)], [.int r, .int x3], Φ μ')))) : wpE (xT 156) ev Q (14, [(0, .ref m), (1, .int x1), (2, .int x2), (3, .int x3), (4, .int x4)], [.int s0, .int s1], Φ μ) := by
  refine p_ald rfl rfl ?_
  refine pm_geti hΦ (v := μ 0 32) rfl rfl ?_
  refine p_bin rfl ?_
  refine p_bin rfl ?_
  refine p_ald rfl rfl ?_
  refine pm_getp hΦ rfl (c := 17) rfl (by decide) ?_
  refine p_ild rfl rfl ?_
  obtain ⟨g, h⟩ := h
  refine pm_aldi hΦ (c := 17) (n := 8) rfl (by decide) rfl rfl g rfl ?_
  refine p_icmp rfl (fun c => ?_) (fun c => ?_)
  · have h := h.1 c
    refine p_push (v := .int 200) rfl ?_
    refine p_loc (ls' := []) rfl ?_
    exact p_ri rfl trivial h
  · have h := h.2 c
    refine p_ild rfl rfl ?_
    refine p_ald rfl rfl ?_
    refine p_ild rfl rfl ?_
    refine p_ild rfl rfl ?_
    refine p_ild rfl rfl ?_
    obtain ⟨r, μ', he, h⟩ := h
    exact p_callV rfl (Nat.le_of_ble_eq_true rfl) rfl rfl (Nat.le_of_ble_eq_true rfl) (ml_kd hΦ) he h
theorem B156_38 {ev : xV} {Q : Option Value → xM → Prop} {m : Nat} {Φ : (Nat → Nat → Int32) → xM} (hΦ : MLaw m Φ) {μ : Nat → Nat → Int32} {x1 x2 x3 x4 s0 s1 : Int32} (h : Q (some (.int (s1 + s0))) (Φ μ)) : wpE (xT 156) ev Q (38, [(0, .ref m), (1, .int x1), (2, .int x2), (3, .int x3), (4, .int x4)], [.int s0, .int s1], Φ μ) := by
  refine p_bin rfl ?_
  refine p_goto rfl ?_
  refine p_loc (ls' := []) rfl ?_
  exact p_ri rfl trivial h
theorem B157_0 {ev : xV} {Q : Option Value → xM → Prop} {m : Nat} {Φ : (Nat → Nat → Int32) → xM} (hΦ : MLaw m Φ) {μ : Nat → Nat → Int32} {x1 x2 x3 : Int32} (h : vp_in x1 8 ∧ (((μ 11 x1.toNatClampNeg) = 4) → Q (some (.int (2 * x3))) (Φ μ)) ∧ (¬ ((μ 11 x1.toNatClampNeg) = 4) → vp_in x1 8 ∧ (((μ 11 x1.toNatClampNeg) = 3) → Q (some (.int (x3 + (x3 - x3 / 2 * 2)))) (Φ μ)) ∧ (¬ ((μ 11 x1.toNatClampNeg) = 3) → vp_in x1 8 ∧ (((μ 11 x1.toNatClampNeg) = 5) → vp_in x1 8 ∧ ((((μ 15 x1.toNatClampNeg) - 2) ≤ x2) → Q (some (.int x3)) (Φ μ)) ∧ (¬ (((μ 15 x1.toNatClampNeg) - 2) ≤ x2) → Q (some (.int (x3 + (x3 - x3 / 2 * 2)))) (Φ μ))) ∧ (¬ ((μ 11 x1.toNatClampNeg) = 5) → Q (some (.int x3)) (Φ μ))))) : wpE (xT 157) ev Q (0, [(0, .ref m), (1, .int x1), (2, .int x2), (3, .int x3)], [], Φ μ) := by
  refine p_ald rfl rfl ?_
  refine pm_getp hΦ rfl (c := 11) rfl (by decide) ?_
  refine p_ild rfl rfl ?_
  obtain ⟨g, h⟩ := h
  refine pm_aldi hΦ (c := 11) (n := 8) rfl (by decide) rfl rfl g rfl ?_
  refine p_push (v := .int 4) rfl ?_
  refine p_icmp rfl (fun c => ?_) (fun c => ?_)
  · have h := h.1 c
    refine p_push (v := .int 2) rfl ?_
    refine p_ild rfl rfl ?_
    refine p_bin rfl ?_
    exact p_ri rfl trivial h
  · have h := h.2 c
    refine p_ald rfl rfl ?_
    refine pm_getp hΦ rfl (c := 11) rfl (by decide) ?_
    refine p_ild rfl rfl ?_
    obtain ⟨g, h⟩ := h
    refine pm_aldi hΦ (c := 11) (n := 8) rfl (by decide) rfl rfl g rfl ?_
    refine p_push (v := .int 3) rfl ?_
    refine p_icmp rfl (fun c => ?_) (fun c => ?_)
    · have h := h.1 c
      refine p_loc (ls' := [(3, .int x3)]) rfl ?_
      refine p_ild rfl rfl ?_
      refine p_ild rfl rfl ?_
      refine p_push (v := .int 2) rfl ?_
      refine p_div rfl (by decide) ?_
      refine p_bin rfl ?_
      refine p_goto rfl ?_
      refine p_loc (ls' := []) rfl ?_
      exact p_ri rfl trivial h
    · have h := h.2 c
      refine p_ald rfl rfl ?_
      refine pm_getp hΦ rfl (c := 11) rfl (by decide) ?_
      refine p_ild rfl rfl ?_
      obtain ⟨g, h⟩ := h
      refine pm_aldi hΦ (c := 11) (n := 8) rfl (by decide) rfl rfl g rfl ?_
      refine p_push (v := .int 5) rfl ?_
      refine p_icmp rfl (fun c => ?_) (fun c => ?_)
      · have h := h.1 c
        refine p_ild rfl rfl ?_
        refine p_ald rfl rfl ?_
        refine pm_getp hΦ rfl (c := 15) rfl (by decide) ?_
        refine p_ild rfl rfl ?_
        obtain ⟨g, h⟩ := h
        refine pm_aldi hΦ (c := 15) (n := 8) rfl (by decide) rfl rfl g rfl ?_
        refine p_push (v := .int 2) rfl ?_
        refine p_bin rfl ?_
        refine p_icmp rfl (fun c => ?_) (fun c => ?_)
        · have h := h.1 c
          refine p_loc (ls' := [(3, .int x3)]) rfl ?_
          refine p_ild rfl rfl ?_
          refine p_loc (ls' := []) rfl ?_
          exact p_ri rfl trivial h
        · have h := h.2 c
          refine p_loc (ls' := [(3, .int x3)]) rfl ?_
          refine p_ild rfl rfl ?_
          refine p_ild rfl rfl ?_
          refine p_push (v := .int 2) rfl ?_
          refine p_div rfl (by decide) ?_
          refine p_bin rfl ?_
          refine p_goto rfl ?_
          refine p_loc (ls' := []) rfl ?_
          exact p_ri rfl trivial h
      · have h := h.2 c
        refine p_loc (ls' := [(3, .int x3)]) rfl ?_
        refine p_ild rfl rfl ?_
        refine p_loc (ls' := []) rfl ?_
        exact p_ri rfl trivial h
theorem B158_0 {ev : xV} {Q : Option Value → xM → Prop} {m : Nat} {Φ : (Nat → Nat → Int32) → xM} (hΦ : MLaw m Φ) {μ : Nat → Nat → Int32} {x1 x2 x3 : Int32} (h : wpE (xT 158) ev Q (26, [(0, .ref m), (1, .int x1), (4, .int 0), (5, .int 0)], [], Φ (U (U (U μ 0 39 x2) 0 40 x3) 0 41 ((U (U μ 0 39 x2) 0 40 x3) 30 0.toNatClampNeg)))) : wpE (xT 158) ev Q (0, [(0, .ref m), (1, .int x1), (2, .int x2), (3, .int x3)], [], Φ μ) := by
  refine p_ald rfl rfl ?_
  refine p_ild rfl rfl ?_
  refine pm_puti hΦ rfl ?_
  refine p_ald rfl rfl ?_
  refine p_ild rfl rfl ?_
  refine pm_puti hΦ rfl ?_
  refine p_ald rfl rfl ?_
  refine p_ald rfl rfl ?_
  refine pm_getp hΦ rfl (c := 30) rfl (by decide) ?_
  refine p_push (v := .int 0) rfl ?_
  refine pm_aldi hΦ (c := 30) (n := 4800) rfl (by decide) rfl rfl (by unfold vp_in; decide) rfl ?_
  refine pm_puti hΦ rfl ?_
  refine p_push (v := .int 0) rfl ?_
  refine p_ist (ls' := [(4, .int 0), (0, .ref m), (1, .int x1), (2, .int x2), (3, .int x3)]) rfl (by decide) rfl ?_
  refine p_push (v := .int 0) rfl ?_
  refine p_ist (ls' := [(5, .int 0), (4, .int 0), (0, .ref m), (1, .int x1), (2, .int x2), (3, .int x3)]) rfl (by decide) rfl ?_
  exact p_loc (ls' := [(0, .ref m), (1, .int x1), (4, .int 0), (5, .int 0)]) rfl h
theorem B158_26 {ev : xV} {Q : Option Value → xM → Prop} {m : Nat} {Φ : (Nat → Nat → Int32) → xM} (hΦ : MLaw m Φ) {μ : Nat → Nat → Int32} {x1 x4 x5 : Int32} (h : vp_in x1 8 ∧ (((μ 15 x1.toNatClampNeg) ≤ x5) → Q none (Φ μ)) ∧ (¬ ((μ 15 x1.toNatClampNeg) ≤ x5) → vp_in x5 24 ∧ vp_in x5 24 ∧ vp_in x5 24 ∧ vp_in x1 8 ∧ ((x5 = (((U (U μ 32 x5.toNatClampNeg ((μ 29 x5.toNatClampNeg) + (x4 * (μ 0 32)))) 31 x5.toNatClampNeg (-1)) 15 x1.toNatClampNeg) - 1)) → Q none (Φ (U (U μ 32 x5.toNatClampNeg ((μ 29 x5.toNatClampNeg) + (x4 * (μ 0 32)))) 31 x5.toNatClampNeg (-1)))) ∧ (¬ (x5 = (((U (U μ 32 x5.toNatClampNeg ((μ 29 x5.toNatClampNeg) + (x4 * (μ 0 32)))) 31 x5.toNatClampNeg (-1)) 15 x1.toNatClampNeg) - 1)) → wpE (xT 158) ev Q (84, [(0, .ref m), (1, .int x1), (4, .int x4), (5, .int x5), (6, .int 1)], [], Φ (U (U μ 32 x5.toNatClampNeg ((μ 29 x5.toNatClampNeg) + (x4 * (μ 0 32)))) 31 x5.toNatClampNeg (-1)))))) : wpE (xT 158) ev Q (26, [(0, .ref m), (1, .int x1), (4, .int x4), (5, .int x5)], [], Φ μ) := by
  refine p_ild rfl rfl ?_
  refine p_ald rfl rfl ?_
  refine pm_getp hΦ rfl (c := 15) rfl (by decide) ?_
  refine p_ild rfl rfl ?_
  obtain ⟨g, h⟩ := h
  refine pm_aldi hΦ (c := 15) (n := 8) rfl (by decide) rfl rfl g rfl ?_
  refine p_icmp rfl (fun c => ?_) (fun c => ?_)
  · have h := h.1 c
    exact p_rv rfl h
  · have h := h.2 c
    refine p_ald rfl rfl ?_
    refine pm_getp hΦ rfl (c := 32) rfl (by decide) ?_
    refine p_ild rfl rfl ?_
    refine p_ald rfl rfl ?_
    refine pm_getp hΦ rfl (c := 29) rfl (by decide) ?_
    refine p_ild rfl rfl ?_
    obtain ⟨g, h⟩ := h
    refine pm_aldi hΦ (c := 29) (n := 24) rfl (by decide) rfl rfl g rfl ?_
    refine p_ild rfl rfl ?_
    refine p_ald rfl rfl ?_
    refine pm_geti hΦ (v := μ 0 32) rfl rfl ?_
    refine p_bin rfl ?_
    refine p_bin rfl ?_
    obtain ⟨g, h⟩ := h
    refine pm_asti hΦ (c := 32) (n := 24) rfl (by decide) rfl rfl g ?_
    refine p_ald rfl rfl ?_
    refine pm_getp hΦ rfl (c := 31) rfl (by decide) ?_
    refine p_ild rfl rfl ?_
    refine p_push (v := .int (-1)) rfl ?_
    obtain ⟨g, h⟩ := h
    refine pm_asti hΦ (c := 31) (n := 24) rfl (by decide) rfl rfl g ?_
    refine p_ild rfl rfl ?_
    refine p_ald rfl rfl ?_
    refine pm_getp hΦ rfl (c := 15) rfl (by decide) ?_
    refine p_ild rfl rfl ?_
    obtain ⟨g, h⟩ := h
    refine pm_aldi hΦ (c := 15) (n := 8) rfl (by decide) rfl rfl g rfl ?_
    refine p_push (v := .int 1) rfl ?_
    refine p_bin rfl ?_
    refine p_icmp rfl (fun c => ?_) (fun c => ?_)
    · have h := h.1 c
      exact p_rv rfl h
    · have h := h.2 c
      refine p_push (v := .int 1) rfl ?_
      refine p_ist (ls' := [(6, .int 1), (0, .ref m), (1, .int x1), (4, .int x4), (5, .int x5)]) rfl (by decide) rfl ?_
      exact p_loc (ls' := [(0, .ref m), (1, .int x1), (4, .int x4), (5, .int x5), (6, .int 1)]) rfl h
theorem B158_84 {ev : xV} {Q : Option Value → xM → Prop} {m : Nat} {Φ : (Nat → Nat → Int32) → xM} (hΦ : MLaw m Φ) {μ : Nat → Nat → Int32} {x1 x4 x5 x6 : Int32} (h : (∃ r μ', ev 156 [.ref m, .int x1, .int x5, .int x4, .int x6] (Φ μ) (some (.int r)) (Φ μ') ∧ wpE (xT 158) ev Q (95, [(0, .ref m), (1, .int x1), (4, .int x4), (5, .int x5), (6, .int x6)], [.int r], Φ μ'))) : wpE (xT 158) ev Q (84, [(0, .ref m), (1, .int x1), (4, .int x4), (5, .int x5), (6, .int x6)], [], Φ μ) := by
  refine p_ald rfl rfl ?_
  refine p_ild rfl rfl ?_
  refine p_ild rfl rfl ?_
  refine p_ild rfl rfl ?_
  refine p_ild rfl rfl ?_
  obtain ⟨r, μ', he, h⟩ := h
  exact p_callV rfl (Nat.le_of_ble_eq_true rfl) rfl rfl (Nat.le_of_ble_eq_true rfl) (ml_kd hΦ) he h
theorem B158_95 {ev : xV} {Q : Option Value → xM → Prop} {m : Nat} {Φ : (Nat → Nat → Int32) → xM} (hΦ : MLaw m Φ) {μ : Nat → Nat → Int32} {x1 x4 x5 x6 s0 : Int32} (h : ((200 ≤ s0) → wpE (xT 158) ev Q (84, [(0, .ref m), (1, .int x1), (4, .int x4), (5, .int x5), (6, .int (x6 + 1))], [], Φ μ)) ∧ (¬ (200 ≤ s0) → (∃ r μ', ev 156 [.ref m, .int x1, .int x5, .int x4, .int x6] (Φ μ) (some (.int r)) (Φ μ') ∧ wpE (xT 158) ev Q (124, [(0, .ref m), (1, .int x1), (4, .int x4), (5, .int x5), (6, .int x6)], [.int r, .int (200 * (x5 + 1)), .ref (m + 30)], Φ μ')))) : wpE (xT 158) ev Q (95, [(0, .ref m), (1, .int x1), (4, .int x4), (5, .int x5), (6, .int x6)], [.int s0], Φ μ) := by
  refine p_push (v := .int 200) rfl ?_
  refine p_icmp rfl (fun c => ?_) (fun c => ?_)
  · have h := h.1 c
    refine p_iinc (y := x6 + 1) (ls' := [(6, .int (x6 + 1)), (0, .ref m), (1, .int x1), (4, .int x4), (5, .int x5)]) rfl (by decide) rfl rfl rfl ?_
    refine p_goto rfl ?_
    exact p_loc (ls' := [(0, .ref m), (1, .int x1), (4, .int x4), (5, .int x5), (6, .int (x6 + 1))]) rfl h
  · have h := h.2 c
    refine p_ald rfl rfl ?_
    refine pm_getp hΦ rfl (c := 30) rfl (by decide) ?_
    refine p_push (v := .int 200) rfl ?_
    refine p_ild rfl rfl ?_
    refine p_push (v := .int 1) rfl ?_
    refine p_bin rfl ?_
    refine p_bin rfl ?_
    refine p_ald rfl rfl ?_
    refine p_ild rfl rfl ?_
    refine p_ild rfl rfl ?_
    refine p_ild rfl rfl ?_
    refine p_ild rfl rfl ?_
    obtain ⟨r, μ', he, h⟩ := h
    exact p_callV rfl (Nat.le_of_ble_eq_true rfl) rfl rfl (Nat.le_of_ble_eq_true rfl) (ml_kd hΦ) he h
theorem B158_124 {ev : xV} {Q : Option Value → xM → Prop} {m : Nat} {Φ : (Nat → Nat → Int32) → xM} (hΦ : MLaw m Φ) {μ : Nat → Nat → Int32} {x1 x4 x5 x6 s0 s1 : Int32} (h : vp_in (s1 + s0) 4800 ∧ vp_in ((200 * x5) + x4) 4800 ∧ (((μ 30 (s1 + s0).toNatClampNeg) = (μ 30 ((200 * x5) + x4).toNatClampNeg)) → vp_in x5 24 ∧ (∃ r μ', ev 156 [.ref m, .int x1, .int x5, .int x4, .int x6] (Φ (U μ 31 x5.toNatClampNeg x6)) (some (.int r)) (Φ μ') ∧ wpE (xT 158) ev Q (169, [(0, .ref m), (1, .int x1), (4, .int x4), (5, .int x5), (6, .int x6)], [.int r], Φ μ'))) ∧ (¬ ((μ 30 (s1 + s0).toNatClampNeg) = (μ 30 ((200 * x5) + x4).toNatClampNeg)) → wpE (xT 158) ev Q (84, [(0, .ref m), (1, .int x1), (4, .int x4), (5, .int x5), (6, .int (x6 + 1))], [], Φ μ))) : wpE (xT 158) ev Q (124, [(0, .ref m), (1, .int x1), (4, .int x4), (5, .int x5), (6, .int x6)], [.int s0, .int s1, .ref (m + 30)], Φ μ) := by
  refine p_bin rfl ?_
  obtain ⟨g, h⟩ := h
  refine pm_aldi hΦ (c := 30) (n := 4800) rfl (by decide) rfl rfl g rfl ?_
  refine p_ald rfl rfl ?_
  refine pm_getp hΦ rfl (c := 30) rfl (by decide) ?_
  refine p_push (v := .int 200) rfl ?_
  refine p_ild rfl rfl ?_
  refine p_bin rfl ?_
  refine p_ild rfl rfl ?_
  refine p_bin rfl ?_
  obtain ⟨g, h⟩ := h
  refine pm_aldi hΦ (c := 30) (n := 4800) rfl (by decide) rfl rfl g rfl ?_
  refine p_icmp rfl (fun c => ?_) (fun c => ?_)
  · have h := h.1 c
    refine p_ald rfl rfl ?_
    refine pm_getp hΦ rfl (c := 31) rfl (by decide) ?_
    refine p_ild rfl rfl ?_
    refine p_ild rfl rfl ?_
    obtain ⟨g, h⟩ := h
    refine pm_asti hΦ (c := 31) (n := 24) rfl (by decide) rfl rfl g ?_
    refine p_ald rfl rfl ?_
    refine p_ild rfl rfl ?_
    refine p_ild rfl rfl ?_
    refine p_ild rfl rfl ?_
    refine p_ild rfl rfl ?_
    obtain ⟨r, μ', he, h⟩ := h
    exact p_callV rfl (Nat.le_of_ble_eq_true rfl) rfl rfl (Nat.le_of_ble_eq_true rfl) (ml_kd hΦ) he h
  · have h := h.2 c
    refine p_iinc (y := x6 + 1) (ls' := [(6, .int (x6 + 1)), (0, .ref m), (1, .int x1), (4, .int x4), (5, .int x5)]) rfl (by decide) rfl rfl rfl ?_
    refine p_goto rfl ?_
    exact p_loc (ls' := [(0, .ref m), (1, .int x1), (4, .int x4), (5, .int x5), (6, .int (x6 + 1))]) rfl h
theorem B158_169 {ev : xV} {Q : Option Value → xM → Prop} {m : Nat} {Φ : (Nat → Nat → Int32) → xM} (hΦ : MLaw m Φ) {μ : Nat → Nat → Int32} {x1 x4 x5 x6 s0 : Int32} (h : wpE (xT 158) ev Q (26, [(0, .ref m), (1, .int x1), (4, .int s0), (5, .int (x5 + 1))], [], Φ μ)) : wpE (xT 158) ev Q (169, [(0, .ref m), (1, .int x1), (4, .int x4), (5, .int x5), (6, .int x6)], [.int s0], Φ μ) := by
  refine p_ist (ls' := [(4, .int s0), (0, .ref m), (1, .int x1), (5, .int x5), (6, .int x6)]) rfl (by decide) rfl ?_
  refine p_iinc (y := x5 + 1) (ls' := [(5, .int (x5 + 1)), (4, .int s0), (0, .ref m), (1, .int x1), (6, .int x6)]) rfl (by decide) rfl rfl rfl ?_
  refine p_goto rfl ?_
  exact p_loc (ls' := [(0, .ref m), (1, .int x1), (4, .int s0), (5, .int (x5 + 1))]) rfl h
theorem B159_0 {ev : xV} {Q : Option Value → xM → Prop} {m : Nat} {Φ : (Nat → Nat → Int32) → xM} (hΦ : MLaw m Φ) {μ : Nat → Nat → Int32} {x1 x2 : Int32} (h : (∃ r μ', ev 147 [.ref m, .int x1] (Φ μ) (some (.int r)) (Φ μ') ∧ wpE (xT 159) ev Q (5, [(0, .ref m), (1, .int x1), (2, .int x2)], [.int r], Φ μ'))) : wpE (xT 159) ev Q (0, [(0, .ref m), (1, .int x1), (2, .int x2)], [], Φ μ) := by
  refine p_ald rfl rfl ?_
  refine p_ild rfl rfl ?_
  obtain ⟨r, μ', he, h⟩ := h
  exact p_callV rfl (Nat.le_of_ble_eq_true rfl) rfl rfl (Nat.le_of_ble_eq_true rfl) (ml_kd hΦ) he h
theorem B159_5 {ev : xV} {Q : Option Value → xM → Prop} {m : Nat} {Φ : (Nat → Nat → Int32) → xM} (hΦ : MLaw m Φ) {μ : Nat → Nat → Int32} {x1 x2 s0 : Int32} (h : ((s0 = 0) → Q (some (.int ((-2)))) (Φ μ)) ∧ (¬ (s0 = 0) → (∃ r μ', ev 129 [.ref m, .int x2, .int 0, .int 4] (Φ μ) (some (.int r)) (Φ μ') ∧ wpE (xT 159) ev Q (15, [(0, .ref m), (1, .int x1), (2, .int x2)], [.int r], Φ μ')))) : wpE (xT 159) ev Q (5, [(0, .ref m), (1, .int x1), (2, .int x2)], [.int s0], Φ μ) := by
  refine p_if rfl (fun c => ?_) (fun c => ?_)
  · have h := h.1 c
    refine p_loc (ls' := []) rfl ?_
    refine p_push (v := .int (-2)) rfl ?_
    exact p_ri rfl trivial h
  · have h := h.2 c
    refine p_ald rfl rfl ?_
    refine p_ild rfl rfl ?_
    refine p_push (v := .int 0) rfl ?_
    refine p_push (v := .int 4) rfl ?_
    obtain ⟨r, μ', he, h⟩ := h
    exact p_callV rfl (Nat.le_of_ble_eq_true rfl) rfl rfl (Nat.le_of_ble_eq_true rfl) (ml_kd hΦ) he h
theorem B159_15 {ev : xV} {Q : Option Value → xM → Prop} {m : Nat} {Φ : (Nat → Nat → Int32) → xM} (hΦ : MLaw m Φ) {μ : Nat → Nat → Int32} {x1 x2 s0 : Int32} (h : ((s0 = 0) → Q (some (.int ((-2)))) (Φ μ)) ∧ (¬ (s0 = 0) → (∃ r μ', ev 160 [.ref m, .int x1] (Φ μ) (some (.int r)) (Φ μ') ∧ wpE (xT 159) ev Q (26, [(0, .ref m), (1, .int x1), (2, .int x2)], [.int r], Φ μ')))) : wpE (xT 159) ev Q (15, [(0, .ref m), (1, .int x1), (2, .int x2)], [.int s0], Φ μ) := by
  refine p_if rfl (fun c => ?_) (fun c => ?_)
  · have h := h.1 c
    refine p_loc (ls' := []) rfl ?_
    refine p_push (v := .int (-2)) rfl ?_
    exact p_ri rfl trivial h
  · have h := h.2 c
    refine p_ald rfl rfl ?_
    refine p_ild rfl rfl ?_
    obtain ⟨r, μ', he, h⟩ := h
    exact p_callV rfl (Nat.le_of_ble_eq_true rfl) rfl rfl (Nat.le_of_ble_eq_true rfl) (ml_kd hΦ) he h
theorem B159_26 {ev : xV} {Q : Option Value → xM → Prop} {m : Nat} {Φ : (Nat → Nat → Int32) → xM} (hΦ : MLaw m Φ) {μ : Nat → Nat → Int32} {x1 x2 s0 : Int32} (h : ((s0 = 0) → Q (some (.int ((-3)))) (Φ μ)) ∧ (¬ (s0 = 0) → ((x2 = 0) → vp_in x1 8 ∧ Q (some (.int (μ 21 x1.toNatClampNeg))) (Φ μ)) ∧ (¬ (x2 = 0) → ((x2 = 1) → vp_in x1 8 ∧ Q (some (.int (μ 22 x1.toNatClampNeg))) (Φ μ)) ∧ (¬ (x2 = 1) → ((x2 = 2) → vp_in x1 8 ∧ vp_in x1 8 ∧ Q (some (.int ((μ 22 x1.toNatClampNeg) + (μ 18 x1.toNatClampNeg)))) (Φ μ)) ∧ (¬ (x2 = 2) → ((x2 = 3) → vp_in x1 8 ∧ Q (some (.int (μ 23 x1.toNatClampNeg))) (Φ μ)) ∧ (¬ (x2 = 3) → vp_in x1 8 ∧ Q (some (.int (μ 24 x1.toNatClampNeg))) (Φ μ))))))) : wpE (xT 159) ev Q (26, [(0, .ref m), (1, .int x1), (2, .int x2)], [.int s0], Φ μ) := by
  refine p_if rfl (fun c => ?_) (fun c => ?_)
  · have h := h.1 c
    refine p_push (v := .int (-3)) rfl ?_
    exact p_ri rfl trivial h
  · have h := h.2 c
    refine p_ild rfl rfl ?_
    refine p_if rfl (fun c => ?_) (fun c => ?_)
    · have h := h.1 c
      refine p_ald rfl rfl ?_
      refine pm_getp hΦ rfl (c := 21) rfl (by decide) ?_
      refine p_ild rfl rfl ?_
      obtain ⟨g, h⟩ := h
      refine pm_aldi hΦ (c := 21) (n := 8) rfl (by decide) rfl rfl g rfl ?_
      refine p_goto rfl ?_
      refine p_loc (ls' := []) rfl ?_
      exact p_ri rfl trivial h
    · have h := h.2 c
      refine p_ild rfl rfl ?_
      refine p_push (v := .int 1) rfl ?_
      refine p_icmp rfl (fun c => ?_) (fun c => ?_)
      · have h := h.1 c
        refine p_ald rfl rfl ?_
        refine pm_getp hΦ rfl (c := 22) rfl (by decide) ?_
        refine p_ild rfl rfl ?_
        obtain ⟨g, h⟩ := h
        refine pm_aldi hΦ (c := 22) (n := 8) rfl (by decide) rfl rfl g rfl ?_
        refine p_goto rfl ?_
        refine p_loc (ls' := []) rfl ?_
        exact p_ri rfl trivial h
      · have h := h.2 c
        refine p_ild rfl rfl ?_
        refine p_push (v := .int 2) rfl ?_
        refine p_icmp rfl (fun c => ?_) (fun c => ?_)
        · have h := h.1 c
          refine p_ald rfl rfl ?_
          refine pm_getp hΦ rfl (c := 22) rfl (by decide) ?_
          refine p_ild rfl rfl ?_
          obtain ⟨g, h⟩ := h
          refine pm_aldi hΦ (c := 22) (n := 8) rfl (by decide) rfl rfl g rfl ?_
          refine p_ald rfl rfl ?_
          refine pm_getp hΦ rfl (c := 18) rfl (by decide) ?_
          refine p_ild rfl rfl ?_
          obtain ⟨g, h⟩ := h
          refine pm_aldi hΦ (c := 18) (n := 8) rfl (by decide) rfl rfl g rfl ?_
          refine p_bin rfl ?_
          refine p_goto rfl ?_
          refine p_loc (ls' := []) rfl ?_
          exact p_ri rfl trivial h
        · have h := h.2 c
          refine p_ild rfl rfl ?_
          refine p_push (v := .int 3) rfl ?_
          refine p_icmp rfl (fun c => ?_) (fun c => ?_)
          · have h := h.1 c
            refine p_ald rfl rfl ?_
            refine pm_getp hΦ rfl (c := 23) rfl (by decide) ?_
            refine p_ild rfl rfl ?_
            obtain ⟨g, h⟩ := h
            refine pm_aldi hΦ (c := 23) (n := 8) rfl (by decide) rfl rfl g rfl ?_
            refine p_goto rfl ?_
            refine p_loc (ls' := []) rfl ?_
            exact p_ri rfl trivial h
          · have h := h.2 c
            refine p_ald rfl rfl ?_
            refine pm_getp hΦ rfl (c := 24) rfl (by decide) ?_
            refine p_ild rfl rfl ?_
            obtain ⟨g, h⟩ := h
            refine pm_aldi hΦ (c := 24) (n := 8) rfl (by decide) rfl rfl g rfl ?_
            refine p_loc (ls' := []) rfl ?_
            exact p_ri rfl trivial h
theorem B160_0 {ev : xV} {Q : Option Value → xM → Prop} {m : Nat} {Φ : (Nat → Nat → Int32) → xM} (hΦ : MLaw m Φ) {μ : Nat → Nat → Int32} {x1 : Int32} (h : (∃ r μ', ev 147 [.ref m, .int x1] (Φ μ) (some (.int r)) (Φ μ') ∧ wpE (xT 160) ev Q (5, [(0, .ref m), (1, .int x1)], [.int r], Φ μ'))) : wpE (xT 160) ev Q (0, [(0, .ref m), (1, .int x1)], [], Φ μ) := by
  refine p_ald rfl rfl ?_
  refine p_ild rfl rfl ?_
  obtain ⟨r, μ', he, h⟩ := h
  exact p_callV rfl (Nat.le_of_ble_eq_true rfl) rfl rfl (Nat.le_of_ble_eq_true rfl) (ml_kd hΦ) he h
theorem B160_5 {ev : xV} {Q : Option Value → xM → Prop} {m : Nat} {Φ : (Nat → Nat → Int32) → xM} (hΦ : MLaw m Φ) {μ : Nat → Nat → Int32} {x1 s0 : Int32} (h : ((s0 = 0) → Q (some (.int 0)) (Φ μ)) ∧ (¬ (s0 = 0) → vp_in x1 8 ∧ (((μ 20 x1.toNatClampNeg) < 0) → Q (some (.int 0)) (Φ μ)) ∧ (¬ ((μ 20 x1.toNatClampNeg) < 0) → Q (some (.int 1)) (Φ μ)))) : wpE (xT 160) ev Q (5, [(0, .ref m), (1, .int x1)], [.int s0], Φ μ) := by
  refine p_if rfl (fun c => ?_) (fun c => ?_)
  · have h := h.1 c
    refine p_loc (ls' := []) rfl ?_
    refine p_push (v := .int 0) rfl ?_
    exact p_ri rfl (by decide) h
  · have h := h.2 c
    refine p_ald rfl rfl ?_
    refine pm_getp hΦ rfl (c := 20) rfl (by decide) ?_
    refine p_ild rfl rfl ?_
    obtain ⟨g, h⟩ := h
    refine pm_aldi hΦ (c := 20) (n := 8) rfl (by decide) rfl rfl g rfl ?_
    refine p_if rfl (fun c => ?_) (fun c => ?_)
    · have h := h.1 c
      refine p_loc (ls' := []) rfl ?_
      refine p_push (v := .int 0) rfl ?_
      exact p_ri rfl (by decide) h
    · have h := h.2 c
      refine p_push (v := .int 1) rfl ?_
      refine p_goto rfl ?_
      refine p_loc (ls' := []) rfl ?_
      exact p_ri rfl (by decide) h
