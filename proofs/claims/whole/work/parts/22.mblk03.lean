theorem B161_0 {ev : xV} {Q : Option Value → xM → Prop} {m : Nat} {Φ : (Nat → Nat → Int32) → xM} (hΦ : MLaw m Φ) {μ : Nat → Nat → Int32} {x1 x2 x3 : Int32} (h : (∃ r μ', ev 147 [.ref m, .int x1] (Φ μ) (some (.int r)) (Φ μ') ∧ wpE (xT 161) ev Q (5, [(0, .ref m), (1, .int x1), (2, .int x2), (3, .int x3)], [.int r], Φ μ'))) : wpE (xT 161) ev Q (0, [(0, .ref m), (1, .int x1), (2, .int x2), (3, .int x3)], [], Φ μ) := by
  refine p_ald rfl rfl ?_
  refine p_ild rfl rfl ?_
  obtain ⟨r, μ', he, h⟩ := h
  exact p_callV rfl (Nat.le_of_ble_eq_true rfl) rfl rfl (Nat.le_of_ble_eq_true rfl) (ml_kd hΦ) he h
theorem B161_5 {ev : xV} {Q : Option Value → xM → Prop} {m : Nat} {Φ : (Nat → Nat → Int32) → xM} (hΦ : MLaw m Φ) {μ : Nat → Nat → Int32} {x1 x2 x3 s0 : Int32} (h : ((s0 = 0) → Q (some (.int ((-2)))) (Φ μ)) ∧ (¬ (s0 = 0) → vp_in x1 8 ∧ (∃ r μ', ev 129 [.ref m, .int x2, .int 0, .int ((μ 15 x1.toNatClampNeg) - 1)] (Φ μ) (some (.int r)) (Φ μ') ∧ wpE (xT 161) ev Q (22, [(0, .ref m), (1, .int x1), (2, .int x2), (3, .int x3)], [.int r], Φ μ')))) : wpE (xT 161) ev Q (5, [(0, .ref m), (1, .int x1), (2, .int x2), (3, .int x3)], [.int s0], Φ μ) := by
  refine p_if rfl (fun c => ?_) (fun c => ?_)
  · have h := h.1 c
    refine p_loc (ls' := []) rfl ?_
    refine p_push (v := .int (-2)) rfl ?_
    exact p_ri rfl trivial h
  · have h := h.2 c
    refine p_ald rfl rfl ?_
    refine p_ild rfl rfl ?_
    refine p_push (v := .int 0) rfl ?_
    refine p_ald rfl rfl ?_
    refine pm_getp hΦ rfl (c := 15) rfl (by decide) ?_
    refine p_ild rfl rfl ?_
    obtain ⟨g, h⟩ := h
    refine pm_aldi hΦ (c := 15) (n := 8) rfl (by decide) rfl rfl g rfl ?_
    refine p_push (v := .int 1) rfl ?_
    refine p_bin rfl ?_
    obtain ⟨r, μ', he, h⟩ := h
    exact p_callV rfl (Nat.le_of_ble_eq_true rfl) rfl rfl (Nat.le_of_ble_eq_true rfl) (ml_kd hΦ) he h
theorem B161_22 {ev : xV} {Q : Option Value → xM → Prop} {m : Nat} {Φ : (Nat → Nat → Int32) → xM} (hΦ : MLaw m Φ) {μ : Nat → Nat → Int32} {x1 x2 x3 s0 : Int32} (h : ((s0 = 0) → Q (some (.int ((-2)))) (Φ μ)) ∧ (¬ (s0 = 0) → (∃ r μ', ev 129 [.ref m, .int x3, .int 0, .int 3] (Φ μ) (some (.int r)) (Φ μ') ∧ wpE (xT 161) ev Q (32, [(0, .ref m), (1, .int x1), (2, .int x2), (3, .int x3)], [.int r], Φ μ')))) : wpE (xT 161) ev Q (22, [(0, .ref m), (1, .int x1), (2, .int x2), (3, .int x3)], [.int s0], Φ μ) := by
  refine p_if rfl (fun c => ?_) (fun c => ?_)
  · have h := h.1 c
    refine p_loc (ls' := []) rfl ?_
    refine p_push (v := .int (-2)) rfl ?_
    exact p_ri rfl trivial h
  · have h := h.2 c
    refine p_ald rfl rfl ?_
    refine p_ild rfl rfl ?_
    refine p_push (v := .int 0) rfl ?_
    refine p_push (v := .int 3) rfl ?_
    obtain ⟨r, μ', he, h⟩ := h
    exact p_callV rfl (Nat.le_of_ble_eq_true rfl) rfl rfl (Nat.le_of_ble_eq_true rfl) (ml_kd hΦ) he h
theorem B161_32 {ev : xV} {Q : Option Value → xM → Prop} {m : Nat} {Φ : (Nat → Nat → Int32) → xM} (hΦ : MLaw m Φ) {μ : Nat → Nat → Int32} {x1 x2 x3 s0 : Int32} (h : ((s0 = 0) → Q (some (.int ((-2)))) (Φ μ)) ∧ (¬ (s0 = 0) → ((x3 = 2) → (∃ r μ', ev 162 [.ref m, .int x1, .int x2] (Φ μ) (some (.int r)) (Φ μ') ∧ wpE (xT 161) ev Q (49, [(0, .ref m), (1, .int x1), (2, .int x2), (3, .int x3)], [.int r], Φ μ'))) ∧ (¬ (x3 = 2) → (∃ r μ', ev 160 [.ref m, .int x1] (Φ μ) (some (.int r)) (Φ μ') ∧ wpE (xT 161) ev Q (55, [(0, .ref m), (1, .int x1), (2, .int x2), (3, .int x3)], [.int r], Φ μ'))))) : wpE (xT 161) ev Q (32, [(0, .ref m), (1, .int x1), (2, .int x2), (3, .int x3)], [.int s0], Φ μ) := by
  refine p_if rfl (fun c => ?_) (fun c => ?_)
  · have h := h.1 c
    refine p_loc (ls' := []) rfl ?_
    refine p_push (v := .int (-2)) rfl ?_
    exact p_ri rfl trivial h
  · have h := h.2 c
    refine p_ild rfl rfl ?_
    refine p_push (v := .int 2) rfl ?_
    refine p_icmp rfl (fun c => ?_) (fun c => ?_)
    · have h := h.1 c
      refine p_ald rfl rfl ?_
      refine p_ild rfl rfl ?_
      refine p_ild rfl rfl ?_
      obtain ⟨r, μ', he, h⟩ := h
      exact p_callV rfl (Nat.le_of_ble_eq_true rfl) rfl rfl (Nat.le_of_ble_eq_true rfl) (ml_kd hΦ) he h
    · have h := h.2 c
      refine p_ald rfl rfl ?_
      refine p_ild rfl rfl ?_
      obtain ⟨r, μ', he, h⟩ := h
      exact p_callV rfl (Nat.le_of_ble_eq_true rfl) rfl rfl (Nat.le_of_ble_eq_true rfl) (ml_kd hΦ) he h
theorem B161_49 {ev : xV} {Q : Option Value → xM → Prop} {m : Nat} {Φ : (Nat → Nat → Int32) → xM} (hΦ : MLaw m Φ) {μ : Nat → Nat → Int32} {x1 x2 x3 s0 : Int32} (h : Q (some (.int s0)) (Φ μ)) : wpE (xT 161) ev Q (49, [(0, .ref m), (1, .int x1), (2, .int x2), (3, .int x3)], [.int s0], Φ μ) := by
  exact p_ri rfl trivial h
theorem B161_55 {ev : xV} {Q : Option Value → xM → Prop} {m : Nat} {Φ : (Nat → Nat → Int32) → xM} (hΦ : MLaw m Φ) {μ : Nat → Nat → Int32} {x1 x2 x3 s0 : Int32} (h : ((s0 = 0) → Q (some (.int ((-3)))) (Φ μ)) ∧ (¬ (s0 = 0) → ((x3 = 0) → vp_in ((24 * x1) + x2) 192 ∧ Q (some (.int (μ 26 ((24 * x1) + x2).toNatClampNeg))) (Φ μ)) ∧ (¬ (x3 = 0) → ((x3 = 1) → vp_in ((24 * x1) + x2) 192 ∧ Q (some (.int (μ 27 ((24 * x1) + x2).toNatClampNeg))) (Φ μ)) ∧ (¬ (x3 = 1) → (∃ r μ', ev 163 [.ref m, .int x1, .int x2] (Φ μ) (some (.int r)) (Φ μ') ∧ wpE (xT 161) ev Q (104, [(0, .ref m), (1, .int x1), (2, .int x2), (3, .int x3)], [.int r], Φ μ')))))) : wpE (xT 161) ev Q (55, [(0, .ref m), (1, .int x1), (2, .int x2), (3, .int x3)], [.int s0], Φ μ) := by
  refine p_if rfl (fun c => ?_) (fun c => ?_)
  · have h := h.1 c
    refine p_push (v := .int (-3)) rfl ?_
    exact p_ri rfl trivial h
  · have h := h.2 c
    refine p_ild rfl rfl ?_
    refine p_if rfl (fun c => ?_) (fun c => ?_)
    · have h := h.1 c
      refine p_ald rfl rfl ?_
      refine pm_getp hΦ rfl (c := 26) rfl (by decide) ?_
      refine p_push (v := .int 24) rfl ?_
      refine p_ild rfl rfl ?_
      refine p_bin rfl ?_
      refine p_ild rfl rfl ?_
      refine p_bin rfl ?_
      obtain ⟨g, h⟩ := h
      refine pm_aldi hΦ (c := 26) (n := 192) rfl (by decide) rfl rfl g rfl ?_
      refine p_goto rfl ?_
      refine p_loc (ls' := []) rfl ?_
      exact p_ri rfl trivial h
    · have h := h.2 c
      refine p_ild rfl rfl ?_
      refine p_push (v := .int 1) rfl ?_
      refine p_icmp rfl (fun c => ?_) (fun c => ?_)
      · have h := h.1 c
        refine p_ald rfl rfl ?_
        refine pm_getp hΦ rfl (c := 27) rfl (by decide) ?_
        refine p_push (v := .int 24) rfl ?_
        refine p_ild rfl rfl ?_
        refine p_bin rfl ?_
        refine p_ild rfl rfl ?_
        refine p_bin rfl ?_
        obtain ⟨g, h⟩ := h
        refine pm_aldi hΦ (c := 27) (n := 192) rfl (by decide) rfl rfl g rfl ?_
        refine p_goto rfl ?_
        refine p_loc (ls' := []) rfl ?_
        exact p_ri rfl trivial h
      · have h := h.2 c
        refine p_ald rfl rfl ?_
        refine p_ild rfl rfl ?_
        refine p_ild rfl rfl ?_
        obtain ⟨r, μ', he, h⟩ := h
        exact p_callV rfl (Nat.le_of_ble_eq_true rfl) rfl rfl (Nat.le_of_ble_eq_true rfl) (ml_kd hΦ) he h
theorem B161_104 {ev : xV} {Q : Option Value → xM → Prop} {m : Nat} {Φ : (Nat → Nat → Int32) → xM} (hΦ : MLaw m Φ) {μ : Nat → Nat → Int32} {x1 x2 x3 s0 : Int32} (h : vp_in ((24 * x1) + x2) 192 ∧ vp_in x1 8 ∧ Q (some (.int ((s0 - (μ 26 ((24 * x1) + x2).toNatClampNeg)) - (μ 25 x1.toNatClampNeg)))) (Φ μ)) : wpE (xT 161) ev Q (104, [(0, .ref m), (1, .int x1), (2, .int x2), (3, .int x3)], [.int s0], Φ μ) := by
  refine p_ald rfl rfl ?_
  refine pm_getp hΦ rfl (c := 26) rfl (by decide) ?_
  refine p_push (v := .int 24) rfl ?_
  refine p_ild rfl rfl ?_
  refine p_bin rfl ?_
  refine p_ild rfl rfl ?_
  refine p_bin rfl ?_
  obtain ⟨g, h⟩ := h
  refine pm_aldi hΦ (c := 26) (n := 192) rfl (by decide) rfl rfl g rfl ?_
  refine p_bin rfl ?_
  refine p_ald rfl rfl ?_
  refine pm_getp hΦ rfl (c := 25) rfl (by decide) ?_
  refine p_ild rfl rfl ?_
  obtain ⟨g, h⟩ := h
  refine pm_aldi hΦ (c := 25) (n := 8) rfl (by decide) rfl rfl g rfl ?_
  refine p_bin rfl ?_
  refine p_loc (ls' := []) rfl ?_
  exact p_ri rfl trivial h
theorem B162_0 {ev : xV} {Q : Option Value → xM → Prop} {m : Nat} {Φ : (Nat → Nat → Int32) → xM} (hΦ : MLaw m Φ) {μ : Nat → Nat → Int32} {x1 x2 : Int32} (h : vp_in x1 8 ∧ vp_in x1 8 ∧ (¬ (μ 15 x1.toNatClampNeg) = 0) ∧ vp_in x1 8 ∧ vp_in x1 8 ∧ (¬ (μ 15 x1.toNatClampNeg) = 0) ∧ Q (some (.int ((((x2 + 1) * (μ 19 x1.toNatClampNeg)) / (μ 15 x1.toNatClampNeg)) - ((x2 * (μ 19 x1.toNatClampNeg)) / (μ 15 x1.toNatClampNeg))))) (Φ μ)) : wpE (xT 162) ev Q (0, [(0, .ref m), (1, .int x1), (2, .int x2)], [], Φ μ) := by
  refine p_ild rfl rfl ?_
  refine p_push (v := .int 1) rfl ?_
  refine p_bin rfl ?_
  refine p_ald rfl rfl ?_
  refine pm_getp hΦ rfl (c := 19) rfl (by decide) ?_
  refine p_ild rfl rfl ?_
  obtain ⟨g, h⟩ := h
  refine pm_aldi hΦ (c := 19) (n := 8) rfl (by decide) rfl rfl g rfl ?_
  refine p_bin rfl ?_
  refine p_ald rfl rfl ?_
  refine pm_getp hΦ rfl (c := 15) rfl (by decide) ?_
  refine p_ild rfl rfl ?_
  obtain ⟨g, h⟩ := h
  refine pm_aldi hΦ (c := 15) (n := 8) rfl (by decide) rfl rfl g rfl ?_
  obtain ⟨g, h⟩ := h
  refine p_div rfl g ?_
  refine p_ild rfl rfl ?_
  refine p_ald rfl rfl ?_
  refine pm_getp hΦ rfl (c := 19) rfl (by decide) ?_
  refine p_ild rfl rfl ?_
  obtain ⟨g, h⟩ := h
  refine pm_aldi hΦ (c := 19) (n := 8) rfl (by decide) rfl rfl g rfl ?_
  refine p_bin rfl ?_
  refine p_ald rfl rfl ?_
  refine pm_getp hΦ rfl (c := 15) rfl (by decide) ?_
  refine p_ild rfl rfl ?_
  obtain ⟨g, h⟩ := h
  refine pm_aldi hΦ (c := 15) (n := 8) rfl (by decide) rfl rfl g rfl ?_
  obtain ⟨g, h⟩ := h
  refine p_div rfl g ?_
  refine p_bin rfl ?_
  exact p_ri rfl trivial h
theorem B163_0 {ev : xV} {Q : Option Value → xM → Prop} {m : Nat} {Φ : (Nat → Nat → Int32) → xM} (hΦ : MLaw m Φ) {μ : Nat → Nat → Int32} {x1 x2 : Int32} (h : vp_in x1 8 ∧ (((μ 15 x1.toNatClampNeg) ≤ (x2 + 1)) → vp_in x1 8 ∧ Q (some (.int (μ 22 x1.toNatClampNeg))) (Φ μ)) ∧ (¬ ((μ 15 x1.toNatClampNeg) ≤ (x2 + 1)) → vp_in (((24 * x1) + x2) + 1) 192 ∧ Q (some (.int (μ 26 (((24 * x1) + x2) + 1).toNatClampNeg))) (Φ μ))) : wpE (xT 163) ev Q (0, [(0, .ref m), (1, .int x1), (2, .int x2)], [], Φ μ) := by
  refine p_ild rfl rfl ?_
  refine p_push (v := .int 1) rfl ?_
  refine p_bin rfl ?_
  refine p_ald rfl rfl ?_
  refine pm_getp hΦ rfl (c := 15) rfl (by decide) ?_
  refine p_ild rfl rfl ?_
  obtain ⟨g, h⟩ := h
  refine pm_aldi hΦ (c := 15) (n := 8) rfl (by decide) rfl rfl g rfl ?_
  refine p_icmp rfl (fun c => ?_) (fun c => ?_)
  · have h := h.1 c
    refine p_ald rfl rfl ?_
    refine pm_getp hΦ rfl (c := 22) rfl (by decide) ?_
    refine p_ild rfl rfl ?_
    obtain ⟨g, h⟩ := h
    refine pm_aldi hΦ (c := 22) (n := 8) rfl (by decide) rfl rfl g rfl ?_
    refine p_loc (ls' := []) rfl ?_
    exact p_ri rfl trivial h
  · have h := h.2 c
    refine p_ald rfl rfl ?_
    refine pm_getp hΦ rfl (c := 26) rfl (by decide) ?_
    refine p_push (v := .int 24) rfl ?_
    refine p_ild rfl rfl ?_
    refine p_bin rfl ?_
    refine p_ild rfl rfl ?_
    refine p_bin rfl ?_
    refine p_push (v := .int 1) rfl ?_
    refine p_bin rfl ?_
    obtain ⟨g, h⟩ := h
    refine pm_aldi hΦ (c := 26) (n := 192) rfl (by decide) rfl rfl g rfl ?_
    refine p_goto rfl ?_
    refine p_loc (ls' := []) rfl ?_
    exact p_ri rfl trivial h
theorem B164_0 {ev : xV} {Q : Option Value → xM → Prop} {m : Nat} {Φ : (Nat → Nat → Int32) → xM} (hΦ : MLaw m Φ) {μ : Nat → Nat → Int32} {x1 x2 x3 : Int32} (h : (∃ r μ', ev 147 [.ref m, .int x1] (Φ μ) (some (.int r)) (Φ μ') ∧ wpE (xT 164) ev Q (5, [(0, .ref m), (1, .int x1), (2, .int x2), (3, .int x3)], [.int r], Φ μ'))) : wpE (xT 164) ev Q (0, [(0, .ref m), (1, .int x1), (2, .int x2), (3, .int x3)], [], Φ μ) := by
  refine p_ald rfl rfl ?_
  refine p_ild rfl rfl ?_
  obtain ⟨r, μ', he, h⟩ := h
  exact p_callV rfl (Nat.le_of_ble_eq_true rfl) rfl rfl (Nat.le_of_ble_eq_true rfl) (ml_kd hΦ) he h
theorem B164_5 {ev : xV} {Q : Option Value → xM → Prop} {m : Nat} {Φ : (Nat → Nat → Int32) → xM} (hΦ : MLaw m Φ) {μ : Nat → Nat → Int32} {x1 x2 x3 s0 : Int32} (h : ((s0 = 0) → Q (some (.int ((-2)))) (Φ μ)) ∧ (¬ (s0 = 0) → (∃ r μ', ev 160 [.ref m, .int x1] (Φ μ) (some (.int r)) (Φ μ') ∧ wpE (xT 164) ev Q (16, [(0, .ref m), (1, .int x1), (2, .int x2), (3, .int x3)], [.int r], Φ μ')))) : wpE (xT 164) ev Q (5, [(0, .ref m), (1, .int x1), (2, .int x2), (3, .int x3)], [.int s0], Φ μ) := by
  refine p_if rfl (fun c => ?_) (fun c => ?_)
  · have h := h.1 c
    refine p_push (v := .int (-2)) rfl ?_
    exact p_ri rfl trivial h
  · have h := h.2 c
    refine p_ald rfl rfl ?_
    refine p_ild rfl rfl ?_
    obtain ⟨r, μ', he, h⟩ := h
    exact p_callV rfl (Nat.le_of_ble_eq_true rfl) rfl rfl (Nat.le_of_ble_eq_true rfl) (ml_kd hΦ) he h
theorem B164_16 {ev : xV} {Q : Option Value → xM → Prop} {m : Nat} {Φ : (Nat → Nat → Int32) → xM} (hΦ : MLaw m Φ) {μ : Nat → Nat → Int32} {x1 x2 x3 s0 : Int32} (h : ((s0 = 0) → Q (some (.int ((-3)))) (Φ μ)) ∧ (¬ (s0 = 0) → (∃ r μ', ev 165 [.ref m, .int x1, .int x3] (Φ μ) (some (.int r)) (Φ μ') ∧ wpE (xT 164) ev Q (31, [(0, .ref m), (1, .int x1), (2, .int x2), (3, .int x3)], [.int r, .int 0, .int x2, .ref m], Φ μ')))) : wpE (xT 164) ev Q (16, [(0, .ref m), (1, .int x1), (2, .int x2), (3, .int x3)], [.int s0], Φ μ) := by
  refine p_if rfl (fun c => ?_) (fun c => ?_)
  · have h := h.1 c
    refine p_push (v := .int (-3)) rfl ?_
    exact p_ri rfl trivial h
  · have h := h.2 c
    refine p_ald rfl rfl ?_
    refine p_ild rfl rfl ?_
    refine p_push (v := .int 0) rfl ?_
    refine p_ald rfl rfl ?_
    refine p_ild rfl rfl ?_
    refine p_ild rfl rfl ?_
    obtain ⟨r, μ', he, h⟩ := h
    exact p_callV rfl (Nat.le_of_ble_eq_true rfl) rfl rfl (Nat.le_of_ble_eq_true rfl) (ml_kd hΦ) he h
theorem B164_31 {ev : xV} {Q : Option Value → xM → Prop} {m : Nat} {Φ : (Nat → Nat → Int32) → xM} (hΦ : MLaw m Φ) {μ : Nat → Nat → Int32} {x1 x2 x3 s0 s1 s2 : Int32} (h : (∃ r μ', ev 129 [.ref m, .int s2, .int s1, .int (s0 - 1)] (Φ μ) (some (.int r)) (Φ μ') ∧ wpE (xT 164) ev Q (36, [(0, .ref m), (1, .int x1), (2, .int x2), (3, .int x3)], [.int r], Φ μ'))) : wpE (xT 164) ev Q (31, [(0, .ref m), (1, .int x1), (2, .int x2), (3, .int x3)], [.int s0, .int s1, .int s2, .ref m], Φ μ) := by
  refine p_push (v := .int 1) rfl ?_
  refine p_bin rfl ?_
  obtain ⟨r, μ', he, h⟩ := h
  exact p_callV rfl (Nat.le_of_ble_eq_true rfl) rfl rfl (Nat.le_of_ble_eq_true rfl) (ml_kd hΦ) he h
theorem B164_36 {ev : xV} {Q : Option Value → xM → Prop} {m : Nat} {Φ : (Nat → Nat → Int32) → xM} (hΦ : MLaw m Φ) {μ : Nat → Nat → Int32} {x1 x2 x3 s0 : Int32} (h : ((s0 = 0) → Q (some (.int ((-1)))) (Φ μ)) ∧ (¬ (s0 = 0) → vp_in x1 8 ∧ (((μ 28 x1.toNatClampNeg) = 0) → wpE (xT 164) ev Q (69, [(0, .ref m), (1, .int x1), (3, .int x3), (4, .int x2), (5, .int 0)], [], Φ μ)) ∧ (¬ ((μ 28 x1.toNatClampNeg) = 0) → (∃ r μ', ev 165 [.ref m, .int x1, .int x3] (Φ μ) (some (.int r)) (Φ μ') ∧ wpE (xT 164) ev Q (56, [(0, .ref m), (1, .int x1), (2, .int x2), (3, .int x3)], [.int r], Φ μ'))))) : wpE (xT 164) ev Q (36, [(0, .ref m), (1, .int x1), (2, .int x2), (3, .int x3)], [.int s0], Φ μ) := by
  refine p_if rfl (fun c => ?_) (fun c => ?_)
  · have h := h.1 c
    refine p_push (v := .int (-1)) rfl ?_
    exact p_ri rfl trivial h
  · have h := h.2 c
    refine p_ald rfl rfl ?_
    refine pm_getp hΦ rfl (c := 28) rfl (by decide) ?_
    refine p_ild rfl rfl ?_
    obtain ⟨g, h⟩ := h
    refine pm_aldi hΦ (c := 28) (n := 8) rfl (by decide) rfl rfl g rfl ?_
    refine p_if rfl (fun c => ?_) (fun c => ?_)
    · have h := h.1 c
      refine p_ild rfl rfl ?_
      refine p_loc (ls' := [(0, .ref m), (1, .int x1), (3, .int x3)]) rfl ?_
      refine p_ist (ls' := [(4, .int x2), (0, .ref m), (1, .int x1), (3, .int x3)]) rfl (by decide) rfl ?_
      refine p_push (v := .int 0) rfl ?_
      refine p_ist (ls' := [(5, .int 0), (4, .int x2), (0, .ref m), (1, .int x1), (3, .int x3)]) rfl (by decide) rfl ?_
      exact p_loc (ls' := [(0, .ref m), (1, .int x1), (3, .int x3), (4, .int x2), (5, .int 0)]) rfl h
    · have h := h.2 c
      refine p_ald rfl rfl ?_
      refine p_ild rfl rfl ?_
      refine p_ild rfl rfl ?_
      obtain ⟨r, μ', he, h⟩ := h
      exact p_callV rfl (Nat.le_of_ble_eq_true rfl) rfl rfl (Nat.le_of_ble_eq_true rfl) (ml_kd hΦ) he h
theorem B164_56 {ev : xV} {Q : Option Value → xM → Prop} {m : Nat} {Φ : (Nat → Nat → Int32) → xM} (hΦ : MLaw m Φ) {μ : Nat → Nat → Int32} {x1 x2 x3 s0 : Int32} (h : wpE (xT 164) ev Q (69, [(0, .ref m), (1, .int x1), (3, .int x3), (4, .int ((s0 - 1) - x2)), (5, .int 0)], [], Φ μ)) : wpE (xT 164) ev Q (56, [(0, .ref m), (1, .int x1), (2, .int x2), (3, .int x3)], [.int s0], Φ μ) := by
  refine p_push (v := .int 1) rfl ?_
  refine p_bin rfl ?_
  refine p_ild rfl rfl ?_
  refine p_bin rfl ?_
  refine p_goto rfl ?_
  refine p_loc (ls' := [(0, .ref m), (1, .int x1), (3, .int x3)]) rfl ?_
  refine p_ist (ls' := [(4, .int ((s0 - 1) - x2)), (0, .ref m), (1, .int x1), (3, .int x3)]) rfl (by decide) rfl ?_
  refine p_push (v := .int 0) rfl ?_
  refine p_ist (ls' := [(5, .int 0), (4, .int ((s0 - 1) - x2)), (0, .ref m), (1, .int x1), (3, .int x3)]) rfl (by decide) rfl ?_
  exact p_loc (ls' := [(0, .ref m), (1, .int x1), (3, .int x3), (4, .int ((s0 - 1) - x2)), (5, .int 0)]) rfl h
theorem B164_69 {ev : xV} {Q : Option Value → xM → Prop} {m : Nat} {Φ : (Nat → Nat → Int32) → xM} (hΦ : MLaw m Φ) {μ : Nat → Nat → Int32} {x1 x3 x4 x5 : Int32} (h : vp_in x1 8 ∧ ((x3 = 0) → wpE (xT 164) ev Q (92, [(0, .ref m), (1, .int x1), (3, .int x3), (4, .int x4), (5, .int x5)], [.int 0, .int (μ 25 x1.toNatClampNeg), .int x4], Φ μ)) ∧ (¬ (x3 = 0) → (∃ r μ', ev 162 [.ref m, .int x1, .int x5] (Φ μ) (some (.int r)) (Φ μ') ∧ wpE (xT 164) ev Q (88, [(0, .ref m), (1, .int x1), (3, .int x3), (4, .int x4), (5, .int x5)], [.int r, .int (μ 25 x1.toNatClampNeg), .int x4], Φ μ')))) : wpE (xT 164) ev Q (69, [(0, .ref m), (1, .int x1), (3, .int x3), (4, .int x4), (5, .int x5)], [], Φ μ) := by
  refine p_ild rfl rfl ?_
  refine p_ald rfl rfl ?_
  refine pm_getp hΦ rfl (c := 25) rfl (by decide) ?_
  refine p_ild rfl rfl ?_
  obtain ⟨g, h⟩ := h
  refine pm_aldi hΦ (c := 25) (n := 8) rfl (by decide) rfl rfl g rfl ?_
  refine p_ild rfl rfl ?_
  refine p_if rfl (fun c => ?_) (fun c => ?_)
  · have h := h.1 c
    refine p_push (v := .int 0) rfl ?_
    exact h
  · have h := h.2 c
    refine p_ald rfl rfl ?_
    refine p_ild rfl rfl ?_
    refine p_ild rfl rfl ?_
    obtain ⟨r, μ', he, h⟩ := h
    exact p_callV rfl (Nat.le_of_ble_eq_true rfl) rfl rfl (Nat.le_of_ble_eq_true rfl) (ml_kd hΦ) he h
theorem B164_88 {ev : xV} {Q : Option Value → xM → Prop} {m : Nat} {Φ : (Nat → Nat → Int32) → xM} (hΦ : MLaw m Φ) {μ : Nat → Nat → Int32} {x1 x3 x4 x5 s0 s1 s2 : Int32} (h : wpE (xT 164) ev Q (92, [(0, .ref m), (1, .int x1), (3, .int x3), (4, .int x4), (5, .int x5)], [.int s0, .int s1, .int s2], Φ μ)) : wpE (xT 164) ev Q (88, [(0, .ref m), (1, .int x1), (3, .int x3), (4, .int x4), (5, .int x5)], [.int s0, .int s1, .int s2], Φ μ) := by
  refine p_goto rfl ?_
  exact h
theorem B164_92 {ev : xV} {Q : Option Value → xM → Prop} {m : Nat} {Φ : (Nat → Nat → Int32) → xM} (hΦ : MLaw m Φ) {μ : Nat → Nat → Int32} {x1 x3 x4 x5 s0 s1 s2 : Int32} (h : ((s2 < (s1 - s0)) → vp_in x1 8 ∧ vp_in (μ 20 x1.toNatClampNeg) 5 ∧ vp_in ((24 * x1) + x5) 192 ∧ ((x3 = 0) → (∃ r μ', ev 139 [.ref m, .int (μ 7 (μ 20 x1.toNatClampNeg).toNatClampNeg), .int (((μ 26 ((24 * x1) + x5).toNatClampNeg) + x4) + 0)] (Φ μ) (some (.int r)) (Φ μ') ∧ wpE (xT 164) ev Q (177, [], [.int r], Φ μ'))) ∧ (¬ (x3 = 0) → (∃ r μ', ev 162 [.ref m, .int x1, .int x5] (Φ μ) (some (.int r)) (Φ μ') ∧ wpE (xT 164) ev Q (167, [(0, .ref m), (1, .int x1), (3, .int x3), (4, .int x4), (5, .int x5)], [.int r, .int ((μ 26 ((24 * x1) + x5).toNatClampNeg) + x4), .int (μ 7 (μ 20 x1.toNatClampNeg).toNatClampNeg), .ref m], Φ μ')))) ∧ (¬ (s2 < (s1 - s0)) → vp_in x1 8 ∧ ((x3 = 0) → wpE (xT 164) ev Q (69, [(0, .ref m), (1, .int x1), (3, .int x3), (4, .int (x4 - ((μ 25 x1.toNatClampNeg) - 0))), (5, .int (x5 + 1))], [], Φ μ)) ∧ (¬ (x3 = 0) → (∃ r μ', ev 162 [.ref m, .int x1, .int x5] (Φ μ) (some (.int r)) (Φ μ') ∧ wpE (xT 164) ev Q (115, [(0, .ref m), (1, .int x1), (3, .int x3), (4, .int x4), (5, .int x5)], [.int r, .int (μ 25 x1.toNatClampNeg), .int x4], Φ μ'))))) : wpE (xT 164) ev Q (92, [(0, .ref m), (1, .int x1), (3, .int x3), (4, .int x4), (5, .int x5)], [.int s0, .int s1, .int s2], Φ μ) := by
  refine p_bin rfl ?_
  refine p_icmp rfl (fun c => ?_) (fun c => ?_)
  · have h := h.1 c
    refine p_ald rfl rfl ?_
    refine p_ald rfl rfl ?_
    refine pm_getp hΦ rfl (c := 7) rfl (by decide) ?_
    refine p_ald rfl rfl ?_
    refine pm_getp hΦ rfl (c := 20) rfl (by decide) ?_
    refine p_ild rfl rfl ?_
    obtain ⟨g, h⟩ := h
    refine pm_aldi hΦ (c := 20) (n := 8) rfl (by decide) rfl rfl g rfl ?_
    obtain ⟨g, h⟩ := h
    refine pm_aldi hΦ (c := 7) (n := 5) rfl (by decide) rfl rfl g rfl ?_
    refine p_ald rfl rfl ?_
    refine pm_getp hΦ rfl (c := 26) rfl (by decide) ?_
    refine p_push (v := .int 24) rfl ?_
    refine p_ild rfl rfl ?_
    refine p_bin rfl ?_
    refine p_ild rfl rfl ?_
    refine p_bin rfl ?_
    obtain ⟨g, h⟩ := h
    refine pm_aldi hΦ (c := 26) (n := 192) rfl (by decide) rfl rfl g rfl ?_
    refine p_ild rfl rfl ?_
    refine p_bin rfl ?_
    refine p_ild rfl rfl ?_
    refine p_if rfl (fun c => ?_) (fun c => ?_)
    · have h := h.1 c
      refine p_push (v := .int 0) rfl ?_
      refine p_loc (ls' := []) rfl ?_
      refine p_bin rfl ?_
      obtain ⟨r, μ', he, h⟩ := h
      exact p_callV rfl (Nat.le_of_ble_eq_true rfl) rfl rfl (Nat.le_of_ble_eq_true rfl) (ml_kd hΦ) he h
    · have h := h.2 c
      refine p_ald rfl rfl ?_
      refine p_ild rfl rfl ?_
      refine p_ild rfl rfl ?_
      obtain ⟨r, μ', he, h⟩ := h
      exact p_callV rfl (Nat.le_of_ble_eq_true rfl) rfl rfl (Nat.le_of_ble_eq_true rfl) (ml_kd hΦ) he h
  · have h := h.2 c
    refine p_ild rfl rfl ?_
    refine p_ald rfl rfl ?_
    refine pm_getp hΦ rfl (c := 25) rfl (by decide) ?_
    refine p_ild rfl rfl ?_
    obtain ⟨g, h⟩ := h
    refine pm_aldi hΦ (c := 25) (n := 8) rfl (by decide) rfl rfl g rfl ?_
    refine p_ild rfl rfl ?_
    refine p_if rfl (fun c => ?_) (fun c => ?_)
    · have h := h.1 c
      refine p_push (v := .int 0) rfl ?_
      refine p_loc (ls' := [(0, .ref m), (1, .int x1), (3, .int x3), (5, .int x5)]) rfl ?_
      refine p_bin rfl ?_
      refine p_bin rfl ?_
      refine p_ist (ls' := [(4, .int (x4 - ((μ 25 x1.toNatClampNeg) - 0))), (0, .ref m), (1, .int x1), (3, .int x3), (5, .int x5)]) rfl (by decide) rfl ?_
      refine p_iinc (y := x5 + 1) (ls' := [(5, .int (x5 + 1)), (4, .int (x4 - ((μ 25 x1.toNatClampNeg) - 0))), (0, .ref m), (1, .int x1), (3, .int x3)]) rfl (by decide) rfl rfl rfl ?_
      refine p_goto rfl ?_
      exact p_loc (ls' := [(0, .ref m), (1, .int x1), (3, .int x3), (4, .int (x4 - ((μ 25 x1.toNatClampNeg) - 0))), (5, .int (x5 + 1))]) rfl h
    · have h := h.2 c
      refine p_ald rfl rfl ?_
      refine p_ild rfl rfl ?_
      refine p_ild rfl rfl ?_
      obtain ⟨r, μ', he, h⟩ := h
      exact p_callV rfl (Nat.le_of_ble_eq_true rfl) rfl rfl (Nat.le_of_ble_eq_true rfl) (ml_kd hΦ) he h
theorem B164_115 {ev : xV} {Q : Option Value → xM → Prop} {m : Nat} {Φ : (Nat → Nat → Int32) → xM} (hΦ : MLaw m Φ) {μ : Nat → Nat → Int32} {x1 x3 x4 x5 s0 s1 s2 : Int32} (h : wpE (xT 164) ev Q (69, [(0, .ref m), (1, .int x1), (3, .int x3), (4, .int (s2 - (s1 - s0))), (5, .int (x5 + 1))], [], Φ μ)) : wpE (xT 164) ev Q (115, [(0, .ref m), (1, .int x1), (3, .int x3), (4, .int x4), (5, .int x5)], [.int s0, .int s1, .int s2], Φ μ) := by
  refine p_goto rfl ?_
  refine p_loc (ls' := [(0, .ref m), (1, .int x1), (3, .int x3), (5, .int x5)]) rfl ?_
  refine p_bin rfl ?_
  refine p_bin rfl ?_
  refine p_ist (ls' := [(4, .int (s2 - (s1 - s0))), (0, .ref m), (1, .int x1), (3, .int x3), (5, .int x5)]) rfl (by decide) rfl ?_
  refine p_iinc (y := x5 + 1) (ls' := [(5, .int (x5 + 1)), (4, .int (s2 - (s1 - s0))), (0, .ref m), (1, .int x1), (3, .int x3)]) rfl (by decide) rfl rfl rfl ?_
  refine p_goto rfl ?_
  exact p_loc (ls' := [(0, .ref m), (1, .int x1), (3, .int x3), (4, .int (s2 - (s1 - s0))), (5, .int (x5 + 1))]) rfl h
theorem B164_167 {ev : xV} {Q : Option Value → xM → Prop} {m : Nat} {Φ : (Nat → Nat → Int32) → xM} (hΦ : MLaw m Φ) {μ : Nat → Nat → Int32} {x1 x3 x4 x5 s0 s1 s2 : Int32} (h : (∃ r μ', ev 139 [.ref m, .int s2, .int (s1 + (s0 / 2))] (Φ μ) (some (.int r)) (Φ μ') ∧ wpE (xT 164) ev Q (177, [], [.int r], Φ μ'))) : wpE (xT 164) ev Q (167, [(0, .ref m), (1, .int x1), (3, .int x3), (4, .int x4), (5, .int x5)], [.int s0, .int s1, .int s2, .ref m], Φ μ) := by
  refine p_push (v := .int 2) rfl ?_
  refine p_div rfl (by decide) ?_
  refine p_goto rfl ?_
  refine p_loc (ls' := []) rfl ?_
  refine p_bin rfl ?_
  obtain ⟨r, μ', he, h⟩ := h
  exact p_callV rfl (Nat.le_of_ble_eq_true rfl) rfl rfl (Nat.le_of_ble_eq_true rfl) (ml_kd hΦ) he h
theorem B164_177 {ev : xV} {Q : Option Value → xM → Prop} {m : Nat} {Φ : (Nat → Nat → Int32) → xM} (hΦ : MLaw m Φ) {μ : Nat → Nat → Int32} {s0 : Int32} (h : Q (some (.int s0)) (Φ μ)) : wpE (xT 164) ev Q (177, [], [.int s0], Φ μ) := by
  exact p_ri rfl trivial h
theorem B165_0 {ev : xV} {Q : Option Value → xM → Prop} {m : Nat} {Φ : (Nat → Nat → Int32) → xM} (hΦ : MLaw m Φ) {μ : Nat → Nat → Int32} {x1 x2 : Int32} (h : vp_in x1 8 ∧ vp_in x1 8 ∧ ((x2 = 0) → Q (some (.int (((μ 15 x1.toNatClampNeg) * (μ 25 x1.toNatClampNeg)) - 0))) (Φ μ)) ∧ (¬ (x2 = 0) → vp_in x1 8 ∧ Q (some (.int (((μ 15 x1.toNatClampNeg) * (μ 25 x1.toNatClampNeg)) - (μ 19 x1.toNatClampNeg)))) (Φ μ))) : wpE (xT 165) ev Q (0, [(0, .ref m), (1, .int x1), (2, .int x2)], [], Φ μ) := by
  refine p_ald rfl rfl ?_
  refine pm_getp hΦ rfl (c := 15) rfl (by decide) ?_
  refine p_ild rfl rfl ?_
  obtain ⟨g, h⟩ := h
  refine pm_aldi hΦ (c := 15) (n := 8) rfl (by decide) rfl rfl g rfl ?_
  refine p_ald rfl rfl ?_
  refine pm_getp hΦ rfl (c := 25) rfl (by decide) ?_
  refine p_ild rfl rfl ?_
  obtain ⟨g, h⟩ := h
  refine pm_aldi hΦ (c := 25) (n := 8) rfl (by decide) rfl rfl g rfl ?_
  refine p_bin rfl ?_
  refine p_ild rfl rfl ?_
  refine p_if rfl (fun c => ?_) (fun c => ?_)
  · have h := h.1 c
    refine p_push (v := .int 0) rfl ?_
    refine p_loc (ls' := []) rfl ?_
    refine p_bin rfl ?_
    exact p_ri rfl trivial h
  · have h := h.2 c
    refine p_ald rfl rfl ?_
    refine pm_getp hΦ rfl (c := 19) rfl (by decide) ?_
    refine p_ild rfl rfl ?_
    obtain ⟨g, h⟩ := h
    refine pm_aldi hΦ (c := 19) (n := 8) rfl (by decide) rfl rfl g rfl ?_
    refine p_goto rfl ?_
    refine p_loc (ls' := []) rfl ?_
    refine p_bin rfl ?_
    exact p_ri rfl trivial h
theorem B166_0 {ev : xV} {Q : Option Value → xM → Prop} {m : Nat} {Φ : (Nat → Nat → Int32) → xM} (hΦ : MLaw m Φ) {μ : Nat → Nat → Int32} {x1 x2 : Int32} (h : (∃ r μ', ev 147 [.ref m, .int x1] (Φ μ) (some (.int r)) (Φ μ') ∧ wpE (xT 166) ev Q (5, [(0, .ref m), (1, .int x1), (2, .int x2)], [.int r], Φ μ'))) : wpE (xT 166) ev Q (0, [(0, .ref m), (1, .int x1), (2, .int x2)], [], Φ μ) := by
  refine p_ald rfl rfl ?_
  refine p_ild rfl rfl ?_
  obtain ⟨r, μ', he, h⟩ := h
  exact p_callV rfl (Nat.le_of_ble_eq_true rfl) rfl rfl (Nat.le_of_ble_eq_true rfl) (ml_kd hΦ) he h
theorem B166_5 {ev : xV} {Q : Option Value → xM → Prop} {m : Nat} {Φ : (Nat → Nat → Int32) → xM} (hΦ : MLaw m Φ) {μ : Nat → Nat → Int32} {x1 x2 s0 : Int32} (h : ((s0 = 0) → Q (some (.int ((-2)))) (Φ μ)) ∧ (¬ (s0 = 0) → (∃ r μ', ev 160 [.ref m, .int x1] (Φ μ) (some (.int r)) (Φ μ') ∧ wpE (xT 166) ev Q (16, [(0, .ref m), (1, .int x1), (2, .int x2)], [.int r], Φ μ')))) : wpE (xT 166) ev Q (5, [(0, .ref m), (1, .int x1), (2, .int x2)], [.int s0], Φ μ) := by
  refine p_if rfl (fun c => ?_) (fun c => ?_)
  · have h := h.1 c
    refine p_push (v := .int (-2)) rfl ?_
    exact p_ri rfl trivial h
  · have h := h.2 c
    refine p_ald rfl rfl ?_
    refine p_ild rfl rfl ?_
    obtain ⟨r, μ', he, h⟩ := h
    exact p_callV rfl (Nat.le_of_ble_eq_true rfl) rfl rfl (Nat.le_of_ble_eq_true rfl) (ml_kd hΦ) he h
theorem B166_16 {ev : xV} {Q : Option Value → xM → Prop} {m : Nat} {Φ : (Nat → Nat → Int32) → xM} (hΦ : MLaw m Φ) {μ : Nat → Nat → Int32} {x1 x2 s0 : Int32} (h : ((s0 = 0) → Q (some (.int ((-3)))) (Φ μ)) ∧ (¬ (s0 = 0) → (∃ r μ', ev 165 [.ref m, .int x1, .int x2] (Φ μ) (some (.int r)) (Φ μ') ∧ wpE (xT 166) ev Q (25, [(0, .ref m), (1, .int x1), (2, .int x2)], [.int r], Φ μ')))) : wpE (xT 166) ev Q (16, [(0, .ref m), (1, .int x1), (2, .int x2)], [.int s0], Φ μ) := by
  refine p_if rfl (fun c => ?_) (fun c => ?_)
  · have h := h.1 c
    refine p_push (v := .int (-3)) rfl ?_
    refine p_loc (ls' := []) rfl ?_
    exact p_ri rfl trivial h
  · have h := h.2 c
    refine p_ald rfl rfl ?_
    refine p_ild rfl rfl ?_
    refine p_ild rfl rfl ?_
    obtain ⟨r, μ', he, h⟩ := h
    exact p_callV rfl (Nat.le_of_ble_eq_true rfl) rfl rfl (Nat.le_of_ble_eq_true rfl) (ml_kd hΦ) he h
theorem B166_25 {ev : xV} {Q : Option Value → xM → Prop} {m : Nat} {Φ : (Nat → Nat → Int32) → xM} (hΦ : MLaw m Φ) {μ : Nat → Nat → Int32} {x1 x2 s0 : Int32} (h : Q (some (.int s0)) (Φ μ)) : wpE (xT 166) ev Q (25, [(0, .ref m), (1, .int x1), (2, .int x2)], [.int s0], Φ μ) := by
  refine p_goto rfl ?_
  refine p_loc (ls' := []) rfl ?_
  exact p_ri rfl trivial h
theorem B167_0 {ev : xV} {Q : Option Value → xM → Prop} {m : Nat} {Φ : (Nat → Nat → Int32) → xM} (hΦ : MLaw m Φ) {μ : Nat → Nat → Int32} {x1 x2 : Int32} (h : (∃ r μ', ev 147 [.ref m, .int x1] (Φ μ) (some (.int r)) (Φ μ') ∧ wpE (xT 167) ev Q (5, [(0, .ref m), (1, .int x1), (2, .int x2)], [.int r], Φ μ'))) : wpE (xT 167) ev Q (0, [(0, .ref m), (1, .int x1), (2, .int x2)], [], Φ μ) := by
  refine p_ald rfl rfl ?_
  refine p_ild rfl rfl ?_
  obtain ⟨r, μ', he, h⟩ := h
  exact p_callV rfl (Nat.le_of_ble_eq_true rfl) rfl rfl (Nat.le_of_ble_eq_true rfl) (ml_kd hΦ) he h
theorem B167_5 {ev : xV} {Q : Option Value → xM → Prop} {m : Nat} {Φ : (Nat → Nat → Int32) → xM} (hΦ : MLaw m Φ) {μ : Nat → Nat → Int32} {x1 x2 s0 : Int32} (h : ((s0 = 0) → Q (some (.int ((-2)))) (Φ μ)) ∧ (¬ (s0 = 0) → (∃ r μ', ev 129 [.ref m, .int x2, .int ((-20)), .int 20] (Φ μ) (some (.int r)) (Φ μ') ∧ wpE (xT 167) ev Q (17, [(0, .ref m), (1, .int x1), (2, .int x2)], [.int r], Φ μ')))) : wpE (xT 167) ev Q (5, [(0, .ref m), (1, .int x1), (2, .int x2)], [.int s0], Φ μ) := by
  refine p_if rfl (fun c => ?_) (fun c => ?_)
  · have h := h.1 c
    refine p_loc (ls' := []) rfl ?_
    refine p_push (v := .int (-2)) rfl ?_
    exact p_ri rfl trivial h
  · have h := h.2 c
    refine p_ald rfl rfl ?_
    refine p_ild rfl rfl ?_
    refine p_push (v := .int (-20)) rfl ?_
    refine p_push (v := .int 20) rfl ?_
    obtain ⟨r, μ', he, h⟩ := h
    exact p_callV rfl (Nat.le_of_ble_eq_true rfl) rfl rfl (Nat.le_of_ble_eq_true rfl) (ml_kd hΦ) he h
theorem B167_17 {ev : xV} {Q : Option Value → xM → Prop} {m : Nat} {Φ : (Nat → Nat → Int32) → xM} (hΦ : MLaw m Φ) {μ : Nat → Nat → Int32} {x1 x2 s0 : Int32} (h : ((s0 = 0) → Q (some (.int ((-2)))) (Φ μ)) ∧ (¬ (s0 = 0) → (∃ r μ', ev 160 [.ref m, .int x1] (Φ μ) (some (.int r)) (Φ μ') ∧ wpE (xT 167) ev Q (28, [(0, .ref m), (1, .int x1), (2, .int x2)], [.int r], Φ μ')))) : wpE (xT 167) ev Q (17, [(0, .ref m), (1, .int x1), (2, .int x2)], [.int s0], Φ μ) := by
  refine p_if rfl (fun c => ?_) (fun c => ?_)
  · have h := h.1 c
    refine p_loc (ls' := []) rfl ?_
    refine p_push (v := .int (-2)) rfl ?_
    exact p_ri rfl trivial h
  · have h := h.2 c
    refine p_ald rfl rfl ?_
    refine p_ild rfl rfl ?_
    obtain ⟨r, μ', he, h⟩ := h
    exact p_callV rfl (Nat.le_of_ble_eq_true rfl) rfl rfl (Nat.le_of_ble_eq_true rfl) (ml_kd hΦ) he h
theorem B167_28 {ev : xV} {Q : Option Value → xM → Prop} {m : Nat} {Φ : (Nat → Nat → Int32) → xM} (hΦ : MLaw m Φ) {μ : Nat → Nat → Int32} {x1 x2 s0 : Int32} (h : ((s0 = 0) → Q (some (.int ((-3)))) (Φ μ)) ∧ (¬ (s0 = 0) → vp_in x1 8 ∧ (∃ r μ', ev 168 [.ref m, .int x1, .int ((μ 25 x1.toNatClampNeg) + x2)] (Φ μ) (some (.int r)) (Φ μ') ∧ wpE (xT 167) ev Q (44, [(0, .ref m), (1, .int x1), (2, .int x2)], [.int r], Φ μ')))) : wpE (xT 167) ev Q (28, [(0, .ref m), (1, .int x1), (2, .int x2)], [.int s0], Φ μ) := by
  refine p_if rfl (fun c => ?_) (fun c => ?_)
  · have h := h.1 c
    refine p_loc (ls' := []) rfl ?_
    refine p_push (v := .int (-3)) rfl ?_
    exact p_ri rfl trivial h
  · have h := h.2 c
    refine p_ald rfl rfl ?_
    refine p_ild rfl rfl ?_
    refine p_ald rfl rfl ?_
    refine pm_getp hΦ rfl (c := 25) rfl (by decide) ?_
    refine p_ild rfl rfl ?_
    obtain ⟨g, h⟩ := h
    refine pm_aldi hΦ (c := 25) (n := 8) rfl (by decide) rfl rfl g rfl ?_
    refine p_ild rfl rfl ?_
    refine p_bin rfl ?_
    obtain ⟨r, μ', he, h⟩ := h
    exact p_callV rfl (Nat.le_of_ble_eq_true rfl) rfl rfl (Nat.le_of_ble_eq_true rfl) (ml_kd hΦ) he h
theorem B167_44 {ev : xV} {Q : Option Value → xM → Prop} {m : Nat} {Φ : (Nat → Nat → Int32) → xM} (hΦ : MLaw m Φ) {μ : Nat → Nat → Int32} {x1 x2 s0 : Int32} (h : ((s0 = 0) → Q (some (.int ((-3)))) (Φ μ)) ∧ (¬ (s0 = 0) → vp_in x1 8 ∧ vp_in x1 8 ∧ vp_in x1 8 ∧ Q (some (.int ((U μ 25 x1.toNatClampNeg ((μ 25 x1.toNatClampNeg) + x2)) 25 x1.toNatClampNeg))) (Φ (U μ 25 x1.toNatClampNeg ((μ 25 x1.toNatClampNeg) + x2))))) : wpE (xT 167) ev Q (44, [(0, .ref m), (1, .int x1), (2, .int x2)], [.int s0], Φ μ) := by
  refine p_if rfl (fun c => ?_) (fun c => ?_)
  · have h := h.1 c
    refine p_loc (ls' := []) rfl ?_
    refine p_push (v := .int (-3)) rfl ?_
    exact p_ri rfl trivial h
  · have h := h.2 c
    refine p_ald rfl rfl ?_
    refine pm_getp hΦ rfl (c := 25) rfl (by decide) ?_
    refine p_ild rfl rfl ?_
    refine p_dup2 rfl rfl rfl ?_
    obtain ⟨g, h⟩ := h
    refine pm_aldi hΦ (c := 25) (n := 8) rfl (by decide) rfl rfl g rfl ?_
    refine p_ild rfl rfl ?_
    refine p_bin rfl ?_
    obtain ⟨g, h⟩ := h
    refine pm_asti hΦ (c := 25) (n := 8) rfl (by decide) rfl rfl g ?_
    refine p_ald rfl rfl ?_
    refine pm_getp hΦ rfl (c := 25) rfl (by decide) ?_
    refine p_ild rfl rfl ?_
    obtain ⟨g, h⟩ := h
    refine pm_aldi hΦ (c := 25) (n := 8) rfl (by decide) rfl rfl g rfl ?_
    exact p_ri rfl trivial h
theorem B168_0 {ev : xV} {Q : Option Value → xM → Prop} {m : Nat} {Φ : (Nat → Nat → Int32) → xM} (hΦ : MLaw m Φ) {μ : Nat → Nat → Int32} {x1 x2 : Int32} (h : (∃ r μ', ev 129 [.ref m, .int x2, .int 1, .int 999] (Φ μ) (some (.int r)) (Φ μ') ∧ wpE (xT 168) ev Q (9, [(0, .ref m), (1, .int x1), (2, .int x2)], [.int r], Φ μ'))) : wpE (xT 168) ev Q (0, [(0, .ref m), (1, .int x1), (2, .int x2)], [], Φ μ) := by
  refine p_ald rfl rfl ?_
  refine p_ild rfl rfl ?_
  refine p_push (v := .int 1) rfl ?_
  refine p_push (v := .int 999) rfl ?_
  obtain ⟨r, μ', he, h⟩ := h
  exact p_callV rfl (Nat.le_of_ble_eq_true rfl) rfl rfl (Nat.le_of_ble_eq_true rfl) (ml_kd hΦ) he h
theorem B168_9 {ev : xV} {Q : Option Value → xM → Prop} {m : Nat} {Φ : (Nat → Nat → Int32) → xM} (hΦ : MLaw m Φ) {μ : Nat → Nat → Int32} {x1 x2 s0 : Int32} (h : ((s0 = 0) → Q (some (.int 0)) (Φ μ)) ∧ (¬ (s0 = 0) → wpE (xT 168) ev Q (16, [(0, .ref m), (1, .int x1), (2, .int x2), (3, .int 0)], [], Φ μ))) : wpE (xT 168) ev Q (9, [(0, .ref m), (1, .int x1), (2, .int x2)], [.int s0], Φ μ) := by
  refine p_if rfl (fun c => ?_) (fun c => ?_)
  · have h := h.1 c
    refine p_push (v := .int 0) rfl ?_
    exact p_ri rfl (by decide) h
  · have h := h.2 c
    refine p_push (v := .int 0) rfl ?_
    refine p_ist (ls' := [(3, .int 0), (0, .ref m), (1, .int x1), (2, .int x2)]) rfl (by decide) rfl ?_
    exact p_loc (ls' := [(0, .ref m), (1, .int x1), (2, .int x2), (3, .int 0)]) rfl h
theorem B168_16 {ev : xV} {Q : Option Value → xM → Prop} {m : Nat} {Φ : (Nat → Nat → Int32) → xM} (hΦ : MLaw m Φ) {μ : Nat → Nat → Int32} {x1 x2 x3 : Int32} (h : vp_in x1 8 ∧ (((μ 15 x1.toNatClampNeg) ≤ x3) → Q (some (.int 1)) (Φ μ)) ∧ (¬ ((μ 15 x1.toNatClampNeg) ≤ x3) → (∃ r μ', ev 162 [.ref m, .int x1, .int x3] (Φ μ) (some (.int r)) (Φ μ') ∧ wpE (xT 168) ev Q (33, [(0, .ref m), (1, .int x1), (2, .int x2), (3, .int x3)], [.int r, .int x2], Φ μ')))) : wpE (xT 168) ev Q (16, [(0, .ref m), (1, .int x1), (2, .int x2), (3, .int x3)], [], Φ μ) := by
  refine p_ild rfl rfl ?_
  refine p_ald rfl rfl ?_
  refine pm_getp hΦ rfl (c := 15) rfl (by decide) ?_
  refine p_ild rfl rfl ?_
  obtain ⟨g, h⟩ := h
  refine pm_aldi hΦ (c := 15) (n := 8) rfl (by decide) rfl rfl g rfl ?_
  refine p_icmp rfl (fun c => ?_) (fun c => ?_)
  · have h := h.1 c
    refine p_push (v := .int 1) rfl ?_
    exact p_ri rfl (by decide) h
  · have h := h.2 c
    refine p_ild rfl rfl ?_
    refine p_ald rfl rfl ?_
    refine p_ild rfl rfl ?_
    refine p_ild rfl rfl ?_
    obtain ⟨r, μ', he, h⟩ := h
    exact p_callV rfl (Nat.le_of_ble_eq_true rfl) rfl rfl (Nat.le_of_ble_eq_true rfl) (ml_kd hΦ) he h
theorem B168_33 {ev : xV} {Q : Option Value → xM → Prop} {m : Nat} {Φ : (Nat → Nat → Int32) → xM} (hΦ : MLaw m Φ) {μ : Nat → Nat → Int32} {x1 x2 x3 s0 s1 : Int32} (h : ((s1 ≤ s0) → Q (some (.int 0)) (Φ μ)) ∧ (¬ (s1 ≤ s0) → vp_in ((24 * x1) + x3) 192 ∧ (∃ r μ', ev 163 [.ref m, .int x1, .int x3] (Φ μ) (some (.int r)) (Φ μ') ∧ wpE (xT 168) ev Q (55, [(0, .ref m), (1, .int x1), (2, .int x2), (3, .int x3)], [.int r, .int ((μ 26 ((24 * x1) + x3).toNatClampNeg) + x2)], Φ μ')))) : wpE (xT 168) ev Q (33, [(0, .ref m), (1, .int x1), (2, .int x2), (3, .int x3)], [.int s0, .int s1], Φ μ) := by
  refine p_icmp rfl (fun c => ?_) (fun c => ?_)
  · have h := h.1 c
    refine p_loc (ls' := []) rfl ?_
    refine p_push (v := .int 0) rfl ?_
    exact p_ri rfl (by decide) h
  · have h := h.2 c
    refine p_ald rfl rfl ?_
    refine pm_getp hΦ rfl (c := 26) rfl (by decide) ?_
    refine p_push (v := .int 24) rfl ?_
    refine p_ild rfl rfl ?_
    refine p_bin rfl ?_
    refine p_ild rfl rfl ?_
    refine p_bin rfl ?_
    obtain ⟨g, h⟩ := h
    refine pm_aldi hΦ (c := 26) (n := 192) rfl (by decide) rfl rfl g rfl ?_
    refine p_ild rfl rfl ?_
    refine p_bin rfl ?_
    refine p_ald rfl rfl ?_
    refine p_ild rfl rfl ?_
    refine p_ild rfl rfl ?_
    obtain ⟨r, μ', he, h⟩ := h
    exact p_callV rfl (Nat.le_of_ble_eq_true rfl) rfl rfl (Nat.le_of_ble_eq_true rfl) (ml_kd hΦ) he h
theorem B168_55 {ev : xV} {Q : Option Value → xM → Prop} {m : Nat} {Φ : (Nat → Nat → Int32) → xM} (hΦ : MLaw m Φ) {μ : Nat → Nat → Int32} {x1 x2 x3 s0 s1 : Int32} (h : ((s0 < s1) → Q (some (.int 0)) (Φ μ)) ∧ (¬ (s0 < s1) → vp_in x1 8 ∧ vp_in ((24 * x1) + x3) 192 ∧ (∃ r μ', ev 144 [.ref m, .int (μ 20 x1.toNatClampNeg), .int (μ 26 ((24 * x1) + x3).toNatClampNeg), .int x2] (Φ μ) (some (.int r)) (Φ μ') ∧ wpE (xT 168) ev Q (80, [(0, .ref m), (1, .int x1), (2, .int x2), (3, .int x3)], [.int r], Φ μ')))) : wpE (xT 168) ev Q (55, [(0, .ref m), (1, .int x1), (2, .int x2), (3, .int x3)], [.int s0, .int s1], Φ μ) := by
  refine p_icmp rfl (fun c => ?_) (fun c => ?_)
  · have h := h.1 c
    refine p_loc (ls' := []) rfl ?_
    refine p_push (v := .int 0) rfl ?_
    exact p_ri rfl (by decide) h
  · have h := h.2 c
    refine p_ald rfl rfl ?_
    refine p_ald rfl rfl ?_
    refine pm_getp hΦ rfl (c := 20) rfl (by decide) ?_
    refine p_ild rfl rfl ?_
    obtain ⟨g, h⟩ := h
    refine pm_aldi hΦ (c := 20) (n := 8) rfl (by decide) rfl rfl g rfl ?_
    refine p_ald rfl rfl ?_
    refine pm_getp hΦ rfl (c := 26) rfl (by decide) ?_
    refine p_push (v := .int 24) rfl ?_
    refine p_ild rfl rfl ?_
    refine p_bin rfl ?_
    refine p_ild rfl rfl ?_
    refine p_bin rfl ?_
    obtain ⟨g, h⟩ := h
    refine pm_aldi hΦ (c := 26) (n := 192) rfl (by decide) rfl rfl g rfl ?_
    refine p_ild rfl rfl ?_
    obtain ⟨r, μ', he, h⟩ := h
    exact p_callV rfl (Nat.le_of_ble_eq_true rfl) rfl rfl (Nat.le_of_ble_eq_true rfl) (ml_kd hΦ) he h
theorem B168_80 {ev : xV} {Q : Option Value → xM → Prop} {m : Nat} {Φ : (Nat → Nat → Int32) → xM} (hΦ : MLaw m Φ) {μ : Nat → Nat → Int32} {x1 x2 x3 s0 : Int32} (h : ((s0 = 0) → wpE (xT 168) ev Q (16, [(0, .ref m), (1, .int x1), (2, .int x2), (3, .int (x3 + 1))], [], Φ μ)) ∧ (¬ (s0 = 0) → Q (some (.int 0)) (Φ μ))) : wpE (xT 168) ev Q (80, [(0, .ref m), (1, .int x1), (2, .int x2), (3, .int x3)], [.int s0], Φ μ) := by
  refine p_if rfl (fun c => ?_) (fun c => ?_)
  · have h := h.1 c
    refine p_iinc (y := x3 + 1) (ls' := [(3, .int (x3 + 1)), (0, .ref m), (1, .int x1), (2, .int x2)]) rfl (by decide) rfl rfl rfl ?_
    refine p_goto rfl ?_
    exact p_loc (ls' := [(0, .ref m), (1, .int x1), (2, .int x2), (3, .int (x3 + 1))]) rfl h
  · have h := h.2 c
    refine p_loc (ls' := []) rfl ?_
    refine p_push (v := .int 0) rfl ?_
    exact p_ri rfl (by decide) h
theorem B169_0 {ev : xV} {Q : Option Value → xM → Prop} {m : Nat} {Φ : (Nat → Nat → Int32) → xM} (hΦ : MLaw m Φ) {μ : Nat → Nat → Int32} {x1 : Int32} (h : (∃ r μ', ev 147 [.ref m, .int x1] (Φ μ) (some (.int r)) (Φ μ') ∧ wpE (xT 169) ev Q (5, [(0, .ref m), (1, .int x1)], [.int r], Φ μ'))) : wpE (xT 169) ev Q (0, [(0, .ref m), (1, .int x1)], [], Φ μ) := by
  refine p_ald rfl rfl ?_
  refine p_ild rfl rfl ?_
  obtain ⟨r, μ', he, h⟩ := h
  exact p_callV rfl (Nat.le_of_ble_eq_true rfl) rfl rfl (Nat.le_of_ble_eq_true rfl) (ml_kd hΦ) he h
theorem B169_5 {ev : xV} {Q : Option Value → xM → Prop} {m : Nat} {Φ : (Nat → Nat → Int32) → xM} (hΦ : MLaw m Φ) {μ : Nat → Nat → Int32} {x1 s0 : Int32} (h : ((s0 = 0) → Q (some (.int ((-2)))) (Φ μ)) ∧ (¬ (s0 = 0) → (∃ r μ', ev 160 [.ref m, .int x1] (Φ μ) (some (.int r)) (Φ μ') ∧ wpE (xT 169) ev Q (16, [(0, .ref m), (1, .int x1)], [.int r], Φ μ')))) : wpE (xT 169) ev Q (5, [(0, .ref m), (1, .int x1)], [.int s0], Φ μ) := by
  refine p_if rfl (fun c => ?_) (fun c => ?_)
  · have h := h.1 c
    refine p_push (v := .int (-2)) rfl ?_
    exact p_ri rfl trivial h
  · have h := h.2 c
    refine p_ald rfl rfl ?_
    refine p_ild rfl rfl ?_
    obtain ⟨r, μ', he, h⟩ := h
    exact p_callV rfl (Nat.le_of_ble_eq_true rfl) rfl rfl (Nat.le_of_ble_eq_true rfl) (ml_kd hΦ) he h
theorem B169_16 {ev : xV} {Q : Option Value → xM → Prop} {m : Nat} {Φ : (Nat → Nat → Int32) → xM} (hΦ : MLaw m Φ) {μ : Nat → Nat → Int32} {x1 s0 : Int32} (h : ((s0 = 0) → Q (some (.int ((-3)))) (Φ μ)) ∧ (¬ (s0 = 0) → vp_in x1 8 ∧ (((μ 28 x1.toNatClampNeg) = 0) → wpE (xT 169) ev Q (41, [(0, .ref m), (1, .int x1)], [.int 1, .int x1, .ref (m + 28)], Φ μ)) ∧ (¬ ((μ 28 x1.toNatClampNeg) = 0) → wpE (xT 169) ev Q (41, [(0, .ref m), (1, .int x1)], [.int 0, .int x1, .ref (m + 28)], Φ μ)))) : wpE (xT 169) ev Q (16, [(0, .ref m), (1, .int x1)], [.int s0], Φ μ) := by
  refine p_if rfl (fun c => ?_) (fun c => ?_)
  · have h := h.1 c
    refine p_push (v := .int (-3)) rfl ?_
    exact p_ri rfl trivial h
  · have h := h.2 c
    refine p_ald rfl rfl ?_
    refine pm_getp hΦ rfl (c := 28) rfl (by decide) ?_
    refine p_ild rfl rfl ?_
    refine p_ald rfl rfl ?_
    refine pm_getp hΦ rfl (c := 28) rfl (by decide) ?_
    refine p_ild rfl rfl ?_
    obtain ⟨g, h⟩ := h
    refine pm_aldi hΦ (c := 28) (n := 8) rfl (by decide) rfl rfl g rfl ?_
    refine p_if rfl (fun c => ?_) (fun c => ?_)
    · have h := h.1 c
      refine p_push (v := .int 1) rfl ?_
      refine p_goto rfl ?_
      exact h
    · have h := h.2 c
      refine p_push (v := .int 0) rfl ?_
      exact h
theorem B169_41 {ev : xV} {Q : Option Value → xM → Prop} {m : Nat} {Φ : (Nat → Nat → Int32) → xM} (hΦ : MLaw m Φ) {μ : Nat → Nat → Int32} {x1 s0 s1 : Int32} (h : vp_in s1 8 ∧ vp_in x1 8 ∧ ((((U μ 28 s1.toNatClampNeg (vp_nar .boolean s0)) 28 x1.toNatClampNeg) = 0) → Q (some (.int 0)) (Φ (U μ 28 s1.toNatClampNeg (vp_nar .boolean s0)))) ∧ (¬ (((U μ 28 s1.toNatClampNeg (vp_nar .boolean s0)) 28 x1.toNatClampNeg) = 0) → Q (some (.int 1)) (Φ (U μ 28 s1.toNatClampNeg (vp_nar .boolean s0))))) : wpE (xT 169) ev Q (41, [(0, .ref m), (1, .int x1)], [.int s0, .int s1, .ref (m + 28)], Φ μ) := by
  obtain ⟨g, h⟩ := h
  refine pm_asti hΦ (c := 28) (n := 8) rfl (by decide) rfl rfl g ?_
  refine p_ald rfl rfl ?_
  refine pm_getp hΦ rfl (c := 28) rfl (by decide) ?_
  refine p_ild rfl rfl ?_
  obtain ⟨g, h⟩ := h
  refine pm_aldi hΦ (c := 28) (n := 8) rfl (by decide) rfl rfl g rfl ?_
  refine p_if rfl (fun c => ?_) (fun c => ?_)
  · have h := h.1 c
    refine p_push (v := .int 0) rfl ?_
    refine p_loc (ls' := []) rfl ?_
    exact p_ri rfl trivial h
  · have h := h.2 c
    refine p_push (v := .int 1) rfl ?_
    refine p_goto rfl ?_
    refine p_loc (ls' := []) rfl ?_
    exact p_ri rfl trivial h
theorem B170_0 {ev : xV} {Q : Option Value → xM → Prop} {m : Nat} {Φ : (Nat → Nat → Int32) → xM} (hΦ : MLaw m Φ) {μ : Nat → Nat → Int32} (h : (((μ 0 42) = 6) → Q (some (.int ((-4)))) (Φ μ)) ∧ (¬ ((μ 0 42) = 6) → (∃ r μ', ev 171 [.ref m] (Φ μ) (some (.int r)) (Φ μ') ∧ wpE (xT 170) ev Q (16, [(0, .ref m)], [.int r], Φ μ')))) : wpE (xT 170) ev Q (0, [(0, .ref m)], [], Φ μ) := by
  refine p_ald rfl rfl ?_
  refine pm_geti hΦ (v := μ 0 42) rfl rfl ?_
  refine p_push (v := .int 6) rfl ?_
  refine p_icmp rfl (fun c => ?_) (fun c => ?_)
  · have h := h.1 c
    refine p_push (v := .int (-4)) rfl ?_
    exact p_ri rfl trivial h
  · have h := h.2 c
    refine p_ald rfl rfl ?_
    obtain ⟨r, μ', he, h⟩ := h
    exact p_callV rfl (Nat.le_of_ble_eq_true rfl) rfl rfl (Nat.le_of_ble_eq_true rfl) (ml_kd hΦ) he h
theorem B170_16 {ev : xV} {Q : Option Value → xM → Prop} {m : Nat} {Φ : (Nat → Nat → Int32) → xM} (hΦ : MLaw m Φ) {μ : Nat → Nat → Int32} {s0 : Int32} (h : ((s0 = 0) → Q (some (.int ((-100) - (μ 0 49)))) (Φ (U μ 0 1 0))) ∧ (¬ (s0 = 0) → Q (some (.int (((μ 0 42) + 1) - 1))) (Φ (U (U μ 0 1 0) 0 42 ((μ 0 42) + 1))))) : wpE (xT 170) ev Q (16, [(0, .ref m)], [.int s0], Φ μ) := by
  refine p_ist (ls' := [(1, .int s0), (0, .ref m)]) rfl (by decide) rfl ?_
  refine p_ald rfl rfl ?_
  refine pm_geti hΦ (v := μ 0 49) rfl rfl ?_
  refine p_ist (ls' := [(2, .int (μ 0 49)), (1, .int s0), (0, .ref m)]) rfl (by decide) rfl ?_
  refine p_ald rfl rfl ?_
  refine p_push (v := .int 0) rfl ?_
  refine pm_puti hΦ rfl ?_
  refine p_ild rfl rfl ?_
  refine p_if rfl (fun c => ?_) (fun c => ?_)
  · have h := h.1 c
    refine p_push (v := .int (-100)) rfl ?_
    refine p_ild rfl rfl ?_
    refine p_bin rfl ?_
    exact p_ri rfl trivial h
  · have h := h.2 c
    refine p_ald rfl rfl ?_
    refine p_dup rfl rfl ?_
    refine pm_geti hΦ (v := μ 0 42) rfl rfl ?_
    refine p_push (v := .int 1) rfl ?_
    refine p_bin rfl ?_
    refine pm_puti hΦ rfl ?_
    refine p_ald rfl rfl ?_
    refine pm_geti hΦ (v := (μ 0 42) + 1) rfl rfl ?_
    refine p_push (v := .int 1) rfl ?_
    refine p_bin rfl ?_
    exact p_ri rfl trivial h
theorem B171_0 {ev : xV} {Q : Option Value → xM → Prop} {m : Nat} {Φ : (Nat → Nat → Int32) → xM} (hΦ : MLaw m Φ) {μ : Nat → Nat → Int32} (h : (∃ μ', ev 172 [.ref m] (Φ (U μ 0 46 0)) none (Φ μ') ∧ wpE (xT 171) ev Q (9, [(0, .ref m)], [], Φ μ'))) : wpE (xT 171) ev Q (0, [(0, .ref m)], [], Φ μ) := by
  refine p_ald rfl rfl ?_
  refine p_push (v := .int 0) rfl ?_
  refine pm_puti hΦ rfl ?_
  refine p_ald rfl rfl ?_
  obtain ⟨μ', he, h⟩ := h
  exact p_callV rfl (Nat.le_of_ble_eq_true rfl) rfl rfl (Nat.le_of_ble_eq_true rfl) (ml_kd hΦ) he h
theorem B171_9 {ev : xV} {Q : Option Value → xM → Prop} {m : Nat} {Φ : (Nat → Nat → Int32) → xM} (hΦ : MLaw m Φ) {μ : Nat → Nat → Int32} (h : wpE (xT 171) ev Q (11, [(0, .ref m), (1, .int 0)], [], Φ μ)) : wpE (xT 171) ev Q (9, [(0, .ref m)], [], Φ μ) := by
  refine p_push (v := .int 0) rfl ?_
  refine p_ist (ls' := [(1, .int 0), (0, .ref m)]) rfl (by decide) rfl ?_
  exact p_loc (ls' := [(0, .ref m), (1, .int 0)]) rfl h
theorem B171_11 {ev : xV} {Q : Option Value → xM → Prop} {m : Nat} {Φ : (Nat → Nat → Int32) → xM} (hΦ : MLaw m Φ) {μ : Nat → Nat → Int32} {x1 : Int32} (h : ((2 ≤ x1) → (((μ 0 47) = 0) → Q (some (.int 1)) (Φ μ)) ∧ (¬ ((μ 0 47) = 0) → Q (some (.int 0)) (Φ μ))) ∧ (¬ (2 ≤ x1) → (∃ r μ', ev 177 [.ref m, .int x1] (Φ μ) (some (.int r)) (Φ μ') ∧ wpE (xT 171) ev Q (21, [(0, .ref m), (1, .int x1)], [.int r], Φ μ')))) : wpE (xT 171) ev Q (11, [(0, .ref m), (1, .int x1)], [], Φ μ) := by
  refine p_ild rfl rfl ?_
  refine p_push (v := .int 2) rfl ?_
  refine p_icmp rfl (fun c => ?_) (fun c => ?_)
  · have h := h.1 c
    refine p_ald rfl rfl ?_
    refine pm_geti hΦ (v := μ 0 47) rfl rfl ?_
    refine p_if rfl (fun c => ?_) (fun c => ?_)
    · have h := h.1 c
      refine p_push (v := .int 1) rfl ?_
      refine p_goto rfl ?_
      refine p_loc (ls' := []) rfl ?_
      exact p_ri rfl (by decide) h
    · have h := h.2 c
      refine p_push (v := .int 0) rfl ?_
      refine p_loc (ls' := []) rfl ?_
      exact p_ri rfl (by decide) h
  · have h := h.2 c
    refine p_ald rfl rfl ?_
    refine p_ild rfl rfl ?_
    obtain ⟨r, μ', he, h⟩ := h
    exact p_callV rfl (Nat.le_of_ble_eq_true rfl) rfl rfl (Nat.le_of_ble_eq_true rfl) (ml_kd hΦ) he h
theorem B171_21 {ev : xV} {Q : Option Value → xM → Prop} {m : Nat} {Φ : (Nat → Nat → Int32) → xM} (hΦ : MLaw m Φ) {μ : Nat → Nat → Int32} {x1 s0 : Int32} (h : ((s0 = 0) → Q (some (.int 0)) (Φ μ)) ∧ (¬ (s0 = 0) → (∃ μ', ev 172 [.ref m] (Φ μ) none (Φ μ') ∧ wpE (xT 171) ev Q (30, [(0, .ref m), (1, .int x1)], [], Φ μ')))) : wpE (xT 171) ev Q (21, [(0, .ref m), (1, .int x1)], [.int s0], Φ μ) := by
  refine p_if rfl (fun c => ?_) (fun c => ?_)
  · have h := h.1 c
    refine p_push (v := .int 0) rfl ?_
    exact p_ri rfl (by decide) h
  · have h := h.2 c
    refine p_ald rfl rfl ?_
    obtain ⟨μ', he, h⟩ := h
    exact p_callV rfl (Nat.le_of_ble_eq_true rfl) rfl rfl (Nat.le_of_ble_eq_true rfl) (ml_kd hΦ) he h
theorem B171_30 {ev : xV} {Q : Option Value → xM → Prop} {m : Nat} {Φ : (Nat → Nat → Int32) → xM} (hΦ : MLaw m Φ) {μ : Nat → Nat → Int32} {x1 : Int32} (h : (∃ r μ', ev 178 [.ref m] (Φ (U μ 0 55 ((2 * (μ 0 42)) + x1))) (some (.int r)) (Φ μ') ∧ wpE (xT 171) ev Q (46, [(0, .ref m), (1, .int x1)], [.int r], Φ μ'))) : wpE (xT 171) ev Q (30, [(0, .ref m), (1, .int x1)], [], Φ μ) := by
  refine p_ald rfl rfl ?_
  refine p_push (v := .int 2) rfl ?_
  refine p_ald rfl rfl ?_
  refine pm_geti hΦ (v := μ 0 42) rfl rfl ?_
  refine p_bin rfl ?_
  refine p_ild rfl rfl ?_
  refine p_bin rfl ?_
  refine pm_puti hΦ rfl ?_
  refine p_ald rfl rfl ?_
  obtain ⟨r, μ', he, h⟩ := h
  exact p_callV rfl (Nat.le_of_ble_eq_true rfl) rfl rfl (Nat.le_of_ble_eq_true rfl) (ml_kd hΦ) he h
theorem B171_46 {ev : xV} {Q : Option Value → xM → Prop} {m : Nat} {Φ : (Nat → Nat → Int32) → xM} (hΦ : MLaw m Φ) {μ : Nat → Nat → Int32} {x1 s0 : Int32} (h : ((s0 = 0) → Q (some (.int 0)) (Φ μ)) ∧ (¬ (s0 = 0) → (∃ μ', ev 172 [.ref m] (Φ μ) none (Φ μ') ∧ wpE (xT 171) ev Q (55, [(0, .ref m), (1, .int x1)], [], Φ μ')))) : wpE (xT 171) ev Q (46, [(0, .ref m), (1, .int x1)], [.int s0], Φ μ) := by
  refine p_if rfl (fun c => ?_) (fun c => ?_)
  · have h := h.1 c
    refine p_push (v := .int 0) rfl ?_
    exact p_ri rfl (by decide) h
  · have h := h.2 c
    refine p_ald rfl rfl ?_
    obtain ⟨μ', he, h⟩ := h
    exact p_callV rfl (Nat.le_of_ble_eq_true rfl) rfl rfl (Nat.le_of_ble_eq_true rfl) (ml_kd hΦ) he h
theorem B171_55 {ev : xV} {Q : Option Value → xM → Prop} {m : Nat} {Φ : (Nat → Nat → Int32) → xM} (hΦ : MLaw m Φ) {μ : Nat → Nat → Int32} {x1 : Int32} (h : wpE (xT 171) ev Q (11, [(0, .ref m), (1, .int (x1 + 1))], [], Φ μ)) : wpE (xT 171) ev Q (55, [(0, .ref m), (1, .int x1)], [], Φ μ) := by
  refine p_iinc (y := x1 + 1) (ls' := [(1, .int (x1 + 1)), (0, .ref m)]) rfl (by decide) rfl rfl rfl ?_
  refine p_goto rfl ?_
  exact p_loc (ls' := [(0, .ref m), (1, .int (x1 + 1))]) rfl h
theorem B172_0 {ev : xV} {Q : Option Value → xM → Prop} {m : Nat} {Φ : (Nat → Nat → Int32) → xM} (hΦ : MLaw m Φ) {μ : Nat → Nat → Int32} (h : (((μ 0 1) ≤ (μ 0 46)) → wpE (xT 172) ev Q (52, [(0, .ref m)], [], Φ μ)) ∧ (¬ ((μ 0 1) ≤ (μ 0 46)) → vp_in (μ 0 46) 160 ∧ (((μ 1 (μ 0 46).toNatClampNeg) = 32) → wpE (xT 172) ev Q (0, [(0, .ref m)], [], Φ (U μ 0 46 ((μ 0 46) + 1)))) ∧ (¬ ((μ 1 (μ 0 46).toNatClampNeg) = 32) → vp_in (μ 0 46) 160 ∧ (((μ 1 (μ 0 46).toNatClampNeg) = 10) → wpE (xT 172) ev Q (0, [(0, .ref m)], [], Φ (U μ 0 46 ((μ 0 46) + 1)))) ∧ (¬ ((μ 1 (μ 0 46).toNatClampNeg) = 10) → wpE (xT 172) ev Q (52, [(0, .ref m)], [], Φ μ))))) : wpE (xT 172) ev Q (0, [(0, .ref m)], [], Φ μ) := by
  refine p_ald rfl rfl ?_
  refine pm_geti hΦ (v := μ 0 46) rfl rfl ?_
  refine p_ald rfl rfl ?_
  refine pm_geti hΦ (v := μ 0 1) rfl rfl ?_
  refine p_icmp rfl (fun c => ?_) (fun c => ?_)
  · have h := h.1 c
    exact h
  · have h := h.2 c
    refine p_ald rfl rfl ?_
    refine pm_getp hΦ rfl (c := 1) rfl (by decide) ?_
    refine p_ald rfl rfl ?_
    refine pm_geti hΦ (v := μ 0 46) rfl rfl ?_
    obtain ⟨g, h⟩ := h
    refine pm_aldi hΦ (c := 1) (n := 160) rfl (by decide) rfl rfl g rfl ?_
    refine p_push (v := .int 32) rfl ?_
    refine p_icmp rfl (fun c => ?_) (fun c => ?_)
    · have h := h.1 c
      refine p_ald rfl rfl ?_
      refine p_dup rfl rfl ?_
      refine pm_geti hΦ (v := μ 0 46) rfl rfl ?_
      refine p_push (v := .int 1) rfl ?_
      refine p_bin rfl ?_
      refine pm_puti hΦ rfl ?_
      refine p_goto rfl ?_
      exact h
    · have h := h.2 c
      refine p_ald rfl rfl ?_
      refine pm_getp hΦ rfl (c := 1) rfl (by decide) ?_
      refine p_ald rfl rfl ?_
      refine pm_geti hΦ (v := μ 0 46) rfl rfl ?_
      obtain ⟨g, h⟩ := h
      refine pm_aldi hΦ (c := 1) (n := 160) rfl (by decide) rfl rfl g rfl ?_
      refine p_push (v := .int 10) rfl ?_
      refine p_icmp rfl (fun c => ?_) (fun c => ?_)
      · have h := h.1 c
        refine p_ald rfl rfl ?_
        refine p_dup rfl rfl ?_
        refine pm_geti hΦ (v := μ 0 46) rfl rfl ?_
        refine p_push (v := .int 1) rfl ?_
        refine p_bin rfl ?_
        refine pm_puti hΦ rfl ?_
        refine p_goto rfl ?_
        exact h
      · have h := h.2 c
        exact h
theorem B172_52 {ev : xV} {Q : Option Value → xM → Prop} {m : Nat} {Φ : (Nat → Nat → Int32) → xM} (hΦ : MLaw m Φ) {μ : Nat → Nat → Int32} (h : (((μ 0 46) = (μ 0 1)) → Q none (Φ (U (U μ 0 49 (μ 0 46)) 0 47 0))) ∧ (¬ ((μ 0 46) = (μ 0 1)) → vp_in (μ 0 46) 160 ∧ (∃ r μ', ev 173 [.ref m, .int ((U (U μ 0 49 (μ 0 46)) 0 47 0) 1 (μ 0 46).toNatClampNeg)] (Φ (U (U μ 0 49 (μ 0 46)) 0 47 0)) (some (.int r)) (Φ μ') ∧ wpE (xT 172) ev Q (92, [(1, .int ((U (U μ 0 49 (μ 0 46)) 0 47 0) 1 (μ 0 46).toNatClampNeg)), (0, .ref m)], [.int r], Φ μ')))) : wpE (xT 172) ev Q (52, [(0, .ref m)], [], Φ μ) := by
  refine p_ald rfl rfl ?_
  refine p_ald rfl rfl ?_
  refine pm_geti hΦ (v := μ 0 46) rfl rfl ?_
  refine pm_puti hΦ rfl ?_
  refine p_ald rfl rfl ?_
  refine p_push (v := .int 0) rfl ?_
  refine pm_puti hΦ rfl ?_
  refine p_ald rfl rfl ?_
  refine pm_geti hΦ (v := μ 0 46) rfl rfl ?_
  refine p_ald rfl rfl ?_
  refine pm_geti hΦ (v := μ 0 1) rfl rfl ?_
  refine p_icmp rfl (fun c => ?_) (fun c => ?_)
  · have h := h.1 c
    exact p_rv rfl h
  · have h := h.2 c
    refine p_ald rfl rfl ?_
    refine pm_getp hΦ rfl (c := 1) rfl (by decide) ?_
    refine p_ald rfl rfl ?_
    refine pm_geti hΦ (v := μ 0 46) rfl rfl ?_
    obtain ⟨g, h⟩ := h
    refine pm_aldi hΦ (c := 1) (n := 160) rfl (by decide) rfl rfl g rfl ?_
    refine p_ist (ls' := [(1, .int ((U (U μ 0 49 (μ 0 46)) 0 47 0) 1 (μ 0 46).toNatClampNeg)), (0, .ref m)]) rfl (by decide) rfl ?_
    refine p_ald rfl rfl ?_
    refine p_ild rfl rfl ?_
    obtain ⟨r, μ', he, h⟩ := h
    exact p_callV rfl (Nat.le_of_ble_eq_true rfl) rfl rfl (Nat.le_of_ble_eq_true rfl) (ml_kd hΦ) he h
theorem B172_92 {ev : xV} {Q : Option Value → xM → Prop} {m : Nat} {Φ : (Nat → Nat → Int32) → xM} (hΦ : MLaw m Φ) {μ : Nat → Nat → Int32} {x1 s0 : Int32} (h : ((s0 = 0) → (∃ r μ', ev 176 [.ref m, .int x1] (Φ μ) (some (.int r)) (Φ μ') ∧ wpE (xT 172) ev Q (105, [(1, .int x1), (0, .ref m)], [.int r], Φ μ'))) ∧ (¬ (s0 = 0) → (∃ μ', ev 174 [.ref m] (Φ μ) none (Φ μ') ∧ wpE (xT 172) ev Q (99, [(1, .int x1), (0, .ref m)], [], Φ μ')))) : wpE (xT 172) ev Q (92, [(1, .int x1), (0, .ref m)], [.int s0], Φ μ) := by
  refine p_if rfl (fun c => ?_) (fun c => ?_)
  · have h := h.1 c
    refine p_ald rfl rfl ?_
    refine p_ild rfl rfl ?_
    obtain ⟨r, μ', he, h⟩ := h
    exact p_callV rfl (Nat.le_of_ble_eq_true rfl) rfl rfl (Nat.le_of_ble_eq_true rfl) (ml_kd hΦ) he h
  · have h := h.2 c
    refine p_ald rfl rfl ?_
    obtain ⟨μ', he, h⟩ := h
    exact p_callV rfl (Nat.le_of_ble_eq_true rfl) rfl rfl (Nat.le_of_ble_eq_true rfl) (ml_kd hΦ) he h
theorem B172_99 {ev : xV} {Q : Option Value → xM → Prop} {m : Nat} {Φ : (Nat → Nat → Int32) → xM} (hΦ : MLaw m Φ) {μ : Nat → Nat → Int32} {x1 : Int32} (h : Q none (Φ μ)) : wpE (xT 172) ev Q (99, [(1, .int x1), (0, .ref m)], [], Φ μ) := by
  exact p_rv rfl h
theorem B172_105 {ev : xV} {Q : Option Value → xM → Prop} {m : Nat} {Φ : (Nat → Nat → Int32) → xM} (hΦ : MLaw m Φ) {μ : Nat → Nat → Int32} {x1 s0 : Int32} (h : ((s0 = 0) → ((x1 = 40) → Q none (Φ (U (U (U μ 0 46 ((μ 0 46) + 1)) 0 48 x1) 0 47 4))) ∧ (¬ (x1 = 40) → ((x1 = 41) → Q none (Φ (U (U (U μ 0 46 ((μ 0 46) + 1)) 0 48 x1) 0 47 4))) ∧ (¬ (x1 = 41) → ((x1 = 59) → Q none (Φ (U (U (U μ 0 46 ((μ 0 46) + 1)) 0 48 x1) 0 47 4))) ∧ (¬ (x1 = 59) → ((x1 = 43) → Q none (Φ (U (U (U μ 0 46 ((μ 0 46) + 1)) 0 48 x1) 0 47 4))) ∧ (¬ (x1 = 43) → ((x1 = 45) → Q none (Φ (U (U (U μ 0 46 ((μ 0 46) + 1)) 0 48 x1) 0 47 4))) ∧ (¬ (x1 = 45) → ((x1 = 42) → Q none (Φ (U (U (U μ 0 46 ((μ 0 46) + 1)) 0 48 x1) 0 47 4))) ∧ (¬ (x1 = 42) → ((x1 = 60) → Q none (Φ (U (U (U μ 0 46 ((μ 0 46) + 1)) 0 48 x1) 0 47 4))) ∧ (¬ (x1 = 60) → ((x1 = 61) → Q none (Φ (U (U (U μ 0 46 ((μ 0 46) + 1)) 0 48 x1) 0 47 4))) ∧ (¬ (x1 = 61) → Q none (Φ (U (U (U μ 0 46 ((μ 0 46) + 1)) 0 48 x1) 0 47 5))))))))))) ∧ (¬ (s0 = 0) → wpE (xT 172) ev Q (113, [(0, .ref m)], [], Φ (U μ 0 48 0)))) : wpE (xT 172) ev Q (105, [(1, .int x1), (0, .ref m)], [.int s0], Φ μ) := by
  refine p_if rfl (fun c => ?_) (fun c => ?_)
  · have h := h.1 c
    refine p_ald rfl rfl ?_
    refine p_dup rfl rfl ?_
    refine pm_geti hΦ (v := μ 0 46) rfl rfl ?_
    refine p_push (v := .int 1) rfl ?_
    refine p_bin rfl ?_
    refine pm_puti hΦ rfl ?_
    refine p_ald rfl rfl ?_
    refine p_ild rfl rfl ?_
    refine pm_puti hΦ rfl ?_
    refine p_ald rfl rfl ?_
    refine p_ild rfl rfl ?_
    refine p_push (v := .int 40) rfl ?_
    refine p_icmp rfl (fun c => ?_) (fun c => ?_)
    · have h := h.1 c
      refine p_loc (ls' := []) rfl ?_
      refine p_push (v := .int 4) rfl ?_
      refine p_goto rfl ?_
      refine pm_puti hΦ rfl ?_
      exact p_rv rfl h
    · have h := h.2 c
      refine p_ild rfl rfl ?_
      refine p_push (v := .int 41) rfl ?_
      refine p_icmp rfl (fun c => ?_) (fun c => ?_)
      · have h := h.1 c
        refine p_loc (ls' := []) rfl ?_
        refine p_push (v := .int 4) rfl ?_
        refine p_goto rfl ?_
        refine pm_puti hΦ rfl ?_
        exact p_rv rfl h
      · have h := h.2 c
        refine p_ild rfl rfl ?_
        refine p_push (v := .int 59) rfl ?_
        refine p_icmp rfl (fun c => ?_) (fun c => ?_)
        · have h := h.1 c
          refine p_loc (ls' := []) rfl ?_
          refine p_push (v := .int 4) rfl ?_
          refine p_goto rfl ?_
          refine pm_puti hΦ rfl ?_
          exact p_rv rfl h
        · have h := h.2 c
          refine p_ild rfl rfl ?_
          refine p_push (v := .int 43) rfl ?_
          refine p_icmp rfl (fun c => ?_) (fun c => ?_)
          · have h := h.1 c
            refine p_loc (ls' := []) rfl ?_
            refine p_push (v := .int 4) rfl ?_
            refine p_goto rfl ?_
            refine pm_puti hΦ rfl ?_
            exact p_rv rfl h
          · have h := h.2 c
            refine p_ild rfl rfl ?_
            refine p_push (v := .int 45) rfl ?_
            refine p_icmp rfl (fun c => ?_) (fun c => ?_)
            · have h := h.1 c
              refine p_loc (ls' := []) rfl ?_
              refine p_push (v := .int 4) rfl ?_
              refine p_goto rfl ?_
              refine pm_puti hΦ rfl ?_
              exact p_rv rfl h
            · have h := h.2 c
              refine p_ild rfl rfl ?_
              refine p_push (v := .int 42) rfl ?_
              refine p_icmp rfl (fun c => ?_) (fun c => ?_)
              · have h := h.1 c
                refine p_loc (ls' := []) rfl ?_
                refine p_push (v := .int 4) rfl ?_
                refine p_goto rfl ?_
                refine pm_puti hΦ rfl ?_
                exact p_rv rfl h
              · have h := h.2 c
                refine p_ild rfl rfl ?_
                refine p_push (v := .int 60) rfl ?_
                refine p_icmp rfl (fun c => ?_) (fun c => ?_)
                · have h := h.1 c
                  refine p_loc (ls' := []) rfl ?_
                  refine p_push (v := .int 4) rfl ?_
                  refine p_goto rfl ?_
                  refine pm_puti hΦ rfl ?_
                  exact p_rv rfl h
                · have h := h.2 c
                  refine p_ild rfl rfl ?_
                  refine p_push (v := .int 61) rfl ?_
                  refine p_icmp rfl (fun c => ?_) (fun c => ?_)
                  · have h := h.1 c
                    refine p_loc (ls' := []) rfl ?_
                    refine p_push (v := .int 4) rfl ?_
                    refine p_goto rfl ?_
                    refine pm_puti hΦ rfl ?_
                    exact p_rv rfl h
                  · have h := h.2 c
                    refine p_push (v := .int 5) rfl ?_
                    refine p_loc (ls' := []) rfl ?_
                    refine pm_puti hΦ rfl ?_
                    exact p_rv rfl h
  · have h := h.2 c
    refine p_ald rfl rfl ?_
    refine p_push (v := .int 0) rfl ?_
    refine pm_puti hΦ rfl ?_
    exact p_loc (ls' := [(0, .ref m)]) rfl h
theorem B172_113 {ev : xV} {Q : Option Value → xM → Prop} {m : Nat} {Φ : (Nat → Nat → Int32) → xM} (hΦ : MLaw m Φ) {μ : Nat → Nat → Int32} (h : (((μ 0 1) ≤ (μ 0 46)) → wpE (xT 172) ev Q (197, [(0, .ref m)], [], Φ μ)) ∧ (¬ ((μ 0 1) ≤ (μ 0 46)) → vp_in (μ 0 46) 160 ∧ (∃ r μ', ev 176 [.ref m, .int (μ 1 (μ 0 46).toNatClampNeg)] (Φ μ) (some (.int r)) (Φ μ') ∧ wpE (xT 172) ev Q (137, [(0, .ref m)], [.int r], Φ μ')))) : wpE (xT 172) ev Q (113, [(0, .ref m)], [], Φ μ) := by
  refine p_ald rfl rfl ?_
  refine pm_geti hΦ (v := μ 0 46) rfl rfl ?_
  refine p_ald rfl rfl ?_
  refine pm_geti hΦ (v := μ 0 1) rfl rfl ?_
  refine p_icmp rfl (fun c => ?_) (fun c => ?_)
  · have h := h.1 c
    exact h
  · have h := h.2 c
    refine p_ald rfl rfl ?_
    refine p_ald rfl rfl ?_
    refine pm_getp hΦ rfl (c := 1) rfl (by decide) ?_
    refine p_ald rfl rfl ?_
    refine pm_geti hΦ (v := μ 0 46) rfl rfl ?_
    obtain ⟨g, h⟩ := h
    refine pm_aldi hΦ (c := 1) (n := 160) rfl (by decide) rfl rfl g rfl ?_
    obtain ⟨r, μ', he, h⟩ := h
    exact p_callV rfl (Nat.le_of_ble_eq_true rfl) rfl rfl (Nat.le_of_ble_eq_true rfl) (ml_kd hΦ) he h
theorem B172_137 {ev : xV} {Q : Option Value → xM → Prop} {m : Nat} {Φ : (Nat → Nat → Int32) → xM} (hΦ : MLaw m Φ) {μ : Nat → Nat → Int32} {s0 : Int32} (h : ((s0 = 0) → wpE (xT 172) ev Q (197, [(0, .ref m)], [], Φ μ)) ∧ (¬ (s0 = 0) → ((4 ≤ ((μ 0 46) - (μ 0 49))) → wpE (xT 172) ev Q (113, [(0, .ref m)], [], Φ (U (U μ 0 48 (μ 0 48)) 0 46 ((μ 0 46) + 1)))) ∧ (¬ (4 ≤ ((μ 0 46) - (μ 0 49))) → vp_in (μ 0 46) 160 ∧ wpE (xT 172) ev Q (113, [(0, .ref m)], [], Φ (U (U μ 0 48 (((10 * (μ 0 48)) + (μ 1 (μ 0 46).toNatClampNeg)) - 48)) 0 46 ((μ 0 46) + 1)))))) : wpE (xT 172) ev Q (137, [(0, .ref m)], [.int s0], Φ μ) := by
  refine p_if rfl (fun c => ?_) (fun c => ?_)
  · have h := h.1 c
    exact h
  · have h := h.2 c
    refine p_ald rfl rfl ?_
    refine p_ald rfl rfl ?_
    refine pm_geti hΦ (v := μ 0 46) rfl rfl ?_
    refine p_ald rfl rfl ?_
    refine pm_geti hΦ (v := μ 0 49) rfl rfl ?_
    refine p_bin rfl ?_
    refine p_push (v := .int 4) rfl ?_
    refine p_icmp rfl (fun c => ?_) (fun c => ?_)
    · have h := h.1 c
      refine p_ald rfl rfl ?_
      refine pm_geti hΦ (v := μ 0 48) rfl rfl ?_
      refine pm_puti hΦ rfl ?_
      refine p_ald rfl rfl ?_
      refine p_dup rfl rfl ?_
      refine pm_geti hΦ (v := μ 0 46) rfl rfl ?_
      refine p_push (v := .int 1) rfl ?_
      refine p_bin rfl ?_
      refine pm_puti hΦ rfl ?_
      refine p_goto rfl ?_
      exact h
    · have h := h.2 c
      refine p_push (v := .int 10) rfl ?_
      refine p_ald rfl rfl ?_
      refine pm_geti hΦ (v := μ 0 48) rfl rfl ?_
      refine p_bin rfl ?_
      refine p_ald rfl rfl ?_
      refine pm_getp hΦ rfl (c := 1) rfl (by decide) ?_
      refine p_ald rfl rfl ?_
      refine pm_geti hΦ (v := μ 0 46) rfl rfl ?_
      obtain ⟨g, h⟩ := h
      refine pm_aldi hΦ (c := 1) (n := 160) rfl (by decide) rfl rfl g rfl ?_
      refine p_bin rfl ?_
      refine p_push (v := .int 48) rfl ?_
      refine p_bin rfl ?_
      refine p_goto rfl ?_
      refine pm_puti hΦ rfl ?_
      refine p_ald rfl rfl ?_
      refine p_dup rfl rfl ?_
      refine pm_geti hΦ (v := μ 0 46) rfl rfl ?_
      refine p_push (v := .int 1) rfl ?_
      refine p_bin rfl ?_
      refine pm_puti hΦ rfl ?_
      refine p_goto rfl ?_
      exact h
theorem B172_197 {ev : xV} {Q : Option Value → xM → Prop} {m : Nat} {Φ : (Nat → Nat → Int32) → xM} (hΦ : MLaw m Φ) {μ : Nat → Nat → Int32} (h : ((((μ 0 46) - (μ 0 49)) ≤ 4) → Q none (Φ (U μ 0 47 1))) ∧ (¬ (((μ 0 46) - (μ 0 49)) ≤ 4) → Q none (Φ (U μ 0 47 5)))) : wpE (xT 172) ev Q (197, [(0, .ref m)], [], Φ μ) := by
  refine p_ald rfl rfl ?_
  refine p_ald rfl rfl ?_
  refine pm_geti hΦ (v := μ 0 46) rfl rfl ?_
  refine p_ald rfl rfl ?_
  refine pm_geti hΦ (v := μ 0 49) rfl rfl ?_
  refine p_bin rfl ?_
  refine p_push (v := .int 4) rfl ?_
  refine p_icmp rfl (fun c => ?_) (fun c => ?_)
  · have h := h.1 c
    refine p_push (v := .int 1) rfl ?_
    refine p_loc (ls' := []) rfl ?_
    refine pm_puti hΦ rfl ?_
    exact p_rv rfl h
  · have h := h.2 c
    refine p_push (v := .int 5) rfl ?_
    refine p_goto rfl ?_
    refine p_loc (ls' := []) rfl ?_
    refine pm_puti hΦ rfl ?_
    exact p_rv rfl h
