theorem B140_0 {ev : xV} {Q : Option Value → xM → Prop} {m : Nat} {Φ : (Nat → Nat → Int32) → xM} (hΦ : MLaw m Φ) {μ : Nat → Nat → Int32} {x1 x2 x3 : Int32} (h : (∃ r μ', ev 135 [.ref m, .int x1] (Φ μ) (some (.int r)) (Φ μ') ∧ wpE (xT 140) ev Q (5, [(0, .ref m), (1, .int x1), (2, .int x2), (3, .int x3)], [.int r], Φ μ'))) : wpE (xT 140) ev Q (0, [(0, .ref m), (1, .int x1), (2, .int x2), (3, .int x3)], [], Φ μ) := by
  refine p_ald rfl rfl ?_
  refine p_ild rfl rfl ?_
  obtain ⟨r, μ', he, h⟩ := h
  exact p_callV rfl (Nat.le_of_ble_eq_true rfl) rfl rfl (Nat.le_of_ble_eq_true rfl) (ml_kd hΦ) he h
theorem B140_5 {ev : xV} {Q : Option Value → xM → Prop} {m : Nat} {Φ : (Nat → Nat → Int32) → xM} (hΦ : MLaw m Φ) {μ : Nat → Nat → Int32} {x1 x2 x3 s0 : Int32} (h : ((s0 = 0) → Q (some (.int ((-2)))) (Φ μ)) ∧ (¬ (s0 = 0) → (∃ r μ', ev 129 [.ref m, .int x2, .int 0, .int 99999] (Φ μ) (some (.int r)) (Φ μ') ∧ wpE (xT 140) ev Q (16, [(0, .ref m), (1, .int x1), (2, .int x2), (3, .int x3)], [.int r], Φ μ')))) : wpE (xT 140) ev Q (5, [(0, .ref m), (1, .int x1), (2, .int x2), (3, .int x3)], [.int s0], Φ μ) := by
  refine p_if rfl (fun c => ?_) (fun c => ?_)
  · have h := h.1 c
    refine p_loc (ls' := []) rfl ?_
    refine p_push (v := .int (-2)) rfl ?_
    exact p_ri rfl trivial h
  · have h := h.2 c
    refine p_ald rfl rfl ?_
    refine p_ild rfl rfl ?_
    refine p_push (v := .int 0) rfl ?_
    refine p_push (v := .int 99999) rfl ?_
    obtain ⟨r, μ', he, h⟩ := h
    exact p_callV rfl (Nat.le_of_ble_eq_true rfl) rfl rfl (Nat.le_of_ble_eq_true rfl) (ml_kd hΦ) he h
theorem B140_16 {ev : xV} {Q : Option Value → xM → Prop} {m : Nat} {Φ : (Nat → Nat → Int32) → xM} (hΦ : MLaw m Φ) {μ : Nat → Nat → Int32} {x1 x2 x3 s0 : Int32} (h : ((s0 = 0) → Q (some (.int ((-2)))) (Φ μ)) ∧ (¬ (s0 = 0) → (∃ r μ', ev 129 [.ref m, .int x3, .int 0, .int 99999] (Φ μ) (some (.int r)) (Φ μ') ∧ wpE (xT 140) ev Q (27, [(0, .ref m), (1, .int x1), (2, .int x2), (3, .int x3)], [.int r], Φ μ')))) : wpE (xT 140) ev Q (16, [(0, .ref m), (1, .int x1), (2, .int x2), (3, .int x3)], [.int s0], Φ μ) := by
  refine p_if rfl (fun c => ?_) (fun c => ?_)
  · have h := h.1 c
    refine p_loc (ls' := []) rfl ?_
    refine p_push (v := .int (-2)) rfl ?_
    exact p_ri rfl trivial h
  · have h := h.2 c
    refine p_ald rfl rfl ?_
    refine p_ild rfl rfl ?_
    refine p_push (v := .int 0) rfl ?_
    refine p_push (v := .int 99999) rfl ?_
    obtain ⟨r, μ', he, h⟩ := h
    exact p_callV rfl (Nat.le_of_ble_eq_true rfl) rfl rfl (Nat.le_of_ble_eq_true rfl) (ml_kd hΦ) he h
theorem B140_27 {ev : xV} {Q : Option Value → xM → Prop} {m : Nat} {Φ : (Nat → Nat → Int32) → xM} (hΦ : MLaw m Φ) {μ : Nat → Nat → Int32} {x1 x2 x3 s0 : Int32} (h : ((s0 = 0) → Q (some (.int ((-2)))) (Φ μ)) ∧ (¬ (s0 = 0) → ((2 ≤ ((x2 + x3) - (x2 + x3) / 4 * 4)) → (∃ r μ', ev 139 [.ref m, .int x1, .int x3] (Φ μ) (some (.int r)) (Φ μ') ∧ wpE (xT 140) ev Q (52, [], [.int r], Φ μ'))) ∧ (¬ (2 ≤ ((x2 + x3) - (x2 + x3) / 4 * 4)) → (∃ r μ', ev 139 [.ref m, .int x1, .int x2] (Φ μ) (some (.int r)) (Φ μ') ∧ wpE (xT 140) ev Q (52, [], [.int r], Φ μ'))))) : wpE (xT 140) ev Q (27, [(0, .ref m), (1, .int x1), (2, .int x2), (3, .int x3)], [.int s0], Φ μ) := by
  refine p_if rfl (fun c => ?_) (fun c => ?_)
  · have h := h.1 c
    refine p_loc (ls' := []) rfl ?_
    refine p_push (v := .int (-2)) rfl ?_
    exact p_ri rfl trivial h
  · have h := h.2 c
    refine p_ald rfl rfl ?_
    refine p_ild rfl rfl ?_
    refine p_ild rfl rfl ?_
    refine p_ild rfl rfl ?_
    refine p_bin rfl ?_
    refine p_push (v := .int 4) rfl ?_
    refine p_div rfl (by decide) ?_
    refine p_push (v := .int 2) rfl ?_
    refine p_icmp rfl (fun c => ?_) (fun c => ?_)
    · have h := h.1 c
      refine p_ild rfl rfl ?_
      refine p_loc (ls' := []) rfl ?_
      obtain ⟨r, μ', he, h⟩ := h
      exact p_callV rfl (Nat.le_of_ble_eq_true rfl) rfl rfl (Nat.le_of_ble_eq_true rfl) (ml_kd hΦ) he h
    · have h := h.2 c
      refine p_ild rfl rfl ?_
      refine p_goto rfl ?_
      refine p_loc (ls' := []) rfl ?_
      obtain ⟨r, μ', he, h⟩ := h
      exact p_callV rfl (Nat.le_of_ble_eq_true rfl) rfl rfl (Nat.le_of_ble_eq_true rfl) (ml_kd hΦ) he h
theorem B140_52 {ev : xV} {Q : Option Value → xM → Prop} {m : Nat} {Φ : (Nat → Nat → Int32) → xM} (hΦ : MLaw m Φ) {μ : Nat → Nat → Int32} {s0 : Int32} (h : Q (some (.int s0)) (Φ μ)) : wpE (xT 140) ev Q (52, [], [.int s0], Φ μ) := by
  exact p_ri rfl trivial h
theorem B141_0 {ev : xV} {Q : Option Value → xM → Prop} {m : Nat} {Φ : (Nat → Nat → Int32) → xM} (hΦ : MLaw m Φ) {μ : Nat → Nat → Int32} {x1 x2 : Int32} (h : (∃ r μ', ev 135 [.ref m, .int x1] (Φ μ) (some (.int r)) (Φ μ') ∧ wpE (xT 141) ev Q (5, [(0, .ref m), (1, .int x1), (2, .int x2)], [.int r], Φ μ'))) : wpE (xT 141) ev Q (0, [(0, .ref m), (1, .int x1), (2, .int x2)], [], Φ μ) := by
  refine p_ald rfl rfl ?_
  refine p_ild rfl rfl ?_
  obtain ⟨r, μ', he, h⟩ := h
  exact p_callV rfl (Nat.le_of_ble_eq_true rfl) rfl rfl (Nat.le_of_ble_eq_true rfl) (ml_kd hΦ) he h
theorem B141_5 {ev : xV} {Q : Option Value → xM → Prop} {m : Nat} {Φ : (Nat → Nat → Int32) → xM} (hΦ : MLaw m Φ) {μ : Nat → Nat → Int32} {x1 x2 s0 : Int32} (h : ((s0 = 0) → Q (some (.int ((-2)))) (Φ μ)) ∧ (¬ (s0 = 0) → (∃ r μ', ev 129 [.ref m, .int x2, .int 100, .int 9999] (Φ μ) (some (.int r)) (Φ μ') ∧ wpE (xT 141) ev Q (18, [(0, .ref m), (1, .int x1), (2, .int x2)], [.int r], Φ μ')))) : wpE (xT 141) ev Q (5, [(0, .ref m), (1, .int x1), (2, .int x2)], [.int s0], Φ μ) := by
  refine p_if rfl (fun c => ?_) (fun c => ?_)
  · have h := h.1 c
    refine p_loc (ls' := []) rfl ?_
    refine p_push (v := .int (-2)) rfl ?_
    exact p_ri rfl trivial h
  · have h := h.2 c
    refine p_ald rfl rfl ?_
    refine p_ild rfl rfl ?_
    refine p_push (v := .int 100) rfl ?_
    refine p_push (v := .int 9999) rfl ?_
    obtain ⟨r, μ', he, h⟩ := h
    exact p_callV rfl (Nat.le_of_ble_eq_true rfl) rfl rfl (Nat.le_of_ble_eq_true rfl) (ml_kd hΦ) he h
theorem B141_18 {ev : xV} {Q : Option Value → xM → Prop} {m : Nat} {Φ : (Nat → Nat → Int32) → xM} (hΦ : MLaw m Φ) {μ : Nat → Nat → Int32} {x1 x2 s0 : Int32} (h : ((s0 = 0) → Q (some (.int ((-2)))) (Φ μ)) ∧ (¬ (s0 = 0) → (((μ 0 8) = 4) → Q (some (.int ((-4)))) (Φ μ)) ∧ (¬ ((μ 0 8) = 4) → vp_in (μ 0 8) 5 ∧ vp_in (μ 0 8) 5 ∧ vp_in (μ 0 8) 5 ∧ Q (some (.int (((μ 0 8) + 1) - 1))) (Φ (U (U (U (U μ 7 ((μ 0 8).toNatClampNeg) x1) 8 ((μ 0 8).toNatClampNeg) x2) 9 ((μ 0 8).toNatClampNeg) 0) 0 8 ((μ 0 8) + 1)))))) : wpE (xT 141) ev Q (18, [(0, .ref m), (1, .int x1), (2, .int x2)], [.int s0], Φ μ) := by
  refine p_if rfl (fun c => ?_) (fun c => ?_)
  · have h := h.1 c
    refine p_loc (ls' := []) rfl ?_
    refine p_push (v := .int (-2)) rfl ?_
    exact p_ri rfl trivial h
  · have h := h.2 c
    refine p_ald rfl rfl ?_
    refine pm_geti hΦ (v := μ 0 8) rfl rfl ?_
    refine p_push (v := .int 4) rfl ?_
    refine p_icmp rfl (fun c => ?_) (fun c => ?_)
    · have h := h.1 c
      refine p_push (v := .int (-4)) rfl ?_
      exact p_ri rfl trivial h
    · have h := h.2 c
      refine p_ald rfl rfl ?_
      refine pm_getp hΦ rfl (c := 7) rfl (by decide) ?_
      refine p_ald rfl rfl ?_
      refine pm_geti hΦ (v := μ 0 8) rfl rfl ?_
      refine p_ild rfl rfl ?_
      obtain ⟨g, h⟩ := h
      refine pm_asti hΦ (c := 7) (n := 5) rfl (by decide) rfl rfl g ?_
      refine p_ald rfl rfl ?_
      refine pm_getp hΦ rfl (c := 8) rfl (by decide) ?_
      refine p_ald rfl rfl ?_
      refine pm_geti hΦ (v := μ 0 8) rfl rfl ?_
      refine p_ild rfl rfl ?_
      obtain ⟨g, h⟩ := h
      refine pm_asti hΦ (c := 8) (n := 5) rfl (by decide) rfl rfl g ?_
      refine p_ald rfl rfl ?_
      refine pm_getp hΦ rfl (c := 9) rfl (by decide) ?_
      refine p_ald rfl rfl ?_
      refine pm_geti hΦ (v := μ 0 8) rfl rfl ?_
      refine p_push (v := .int 0) rfl ?_
      obtain ⟨g, h⟩ := h
      refine pm_asti hΦ (c := 9) (n := 5) rfl (by decide) rfl rfl g ?_
      refine p_ald rfl rfl ?_
      refine p_dup rfl rfl ?_
      refine pm_geti hΦ (v := μ 0 8) rfl rfl ?_
      refine p_push (v := .int 1) rfl ?_
      refine p_bin rfl ?_
      refine pm_puti hΦ rfl ?_
      refine p_ald rfl rfl ?_
      refine pm_geti hΦ (v := (μ 0 8) + 1) rfl rfl ?_
      refine p_push (v := .int 1) rfl ?_
      refine p_bin rfl ?_
      exact p_ri rfl trivial h
theorem B142_0 {ev : xV} {Q : Option Value → xM → Prop} {m : Nat} {Φ : (Nat → Nat → Int32) → xM} (hΦ : MLaw m Φ) {μ : Nat → Nat → Int32} {x1 x2 : Int32} (h : (∃ r μ', ev 143 [.ref m, .int x1] (Φ μ) (some (.int r)) (Φ μ') ∧ wpE (xT 142) ev Q (5, [(0, .ref m), (1, .int x1), (2, .int x2)], [.int r], Φ μ'))) : wpE (xT 142) ev Q (0, [(0, .ref m), (1, .int x1), (2, .int x2)], [], Φ μ) := by
  refine p_ald rfl rfl ?_
  refine p_ild rfl rfl ?_
  obtain ⟨r, μ', he, h⟩ := h
  exact p_callV rfl (Nat.le_of_ble_eq_true rfl) rfl rfl (Nat.le_of_ble_eq_true rfl) (ml_kd hΦ) he h
theorem B142_5 {ev : xV} {Q : Option Value → xM → Prop} {m : Nat} {Φ : (Nat → Nat → Int32) → xM} (hΦ : MLaw m Φ) {μ : Nat → Nat → Int32} {x1 x2 s0 : Int32} (h : ((s0 = 0) → Q (some (.int ((-2)))) (Φ μ)) ∧ (¬ (s0 = 0) → vp_in x1 5 ∧ (∃ r μ', ev 129 [.ref m, .int x2, .int 0, .int ((μ 8 x1.toNatClampNeg) - 1)] (Φ μ) (some (.int r)) (Φ μ') ∧ wpE (xT 142) ev Q (22, [(0, .ref m), (1, .int x1), (2, .int x2)], [.int r], Φ μ')))) : wpE (xT 142) ev Q (5, [(0, .ref m), (1, .int x1), (2, .int x2)], [.int s0], Φ μ) := by
  refine p_if rfl (fun c => ?_) (fun c => ?_)
  · have h := h.1 c
    refine p_loc (ls' := []) rfl ?_
    refine p_push (v := .int (-2)) rfl ?_
    exact p_ri rfl trivial h
  · have h := h.2 c
    refine p_ald rfl rfl ?_
    refine p_ild rfl rfl ?_
    refine p_push (v := .int 0) rfl ?_
    refine p_ald rfl rfl ?_
    refine pm_getp hΦ rfl (c := 8) rfl (by decide) ?_
    refine p_ild rfl rfl ?_
    obtain ⟨g, h⟩ := h
    refine pm_aldi hΦ (c := 8) (n := 5) rfl (by decide) rfl rfl g rfl ?_
    refine p_push (v := .int 1) rfl ?_
    refine p_bin rfl ?_
    obtain ⟨r, μ', he, h⟩ := h
    exact p_callV rfl (Nat.le_of_ble_eq_true rfl) rfl rfl (Nat.le_of_ble_eq_true rfl) (ml_kd hΦ) he h
theorem B142_22 {ev : xV} {Q : Option Value → xM → Prop} {m : Nat} {Φ : (Nat → Nat → Int32) → xM} (hΦ : MLaw m Φ) {μ : Nat → Nat → Int32} {x1 x2 s0 : Int32} (h : ((s0 = 0) → Q (some (.int ((-2)))) (Φ μ)) ∧ (¬ (s0 = 0) → (∃ r μ', ev 144 [.ref m, .int x1, .int x2, .int 1] (Φ μ) (some (.int r)) (Φ μ') ∧ wpE (xT 142) ev Q (32, [(0, .ref m), (1, .int x1), (2, .int x2)], [.int r], Φ μ')))) : wpE (xT 142) ev Q (22, [(0, .ref m), (1, .int x1), (2, .int x2)], [.int s0], Φ μ) := by
  refine p_if rfl (fun c => ?_) (fun c => ?_)
  · have h := h.1 c
    refine p_loc (ls' := []) rfl ?_
    refine p_push (v := .int (-2)) rfl ?_
    exact p_ri rfl trivial h
  · have h := h.2 c
    refine p_ald rfl rfl ?_
    refine p_ild rfl rfl ?_
    refine p_ild rfl rfl ?_
    refine p_push (v := .int 1) rfl ?_
    obtain ⟨r, μ', he, h⟩ := h
    exact p_callV rfl (Nat.le_of_ble_eq_true rfl) rfl rfl (Nat.le_of_ble_eq_true rfl) (ml_kd hΦ) he h
theorem B142_32 {ev : xV} {Q : Option Value → xM → Prop} {m : Nat} {Φ : (Nat → Nat → Int32) → xM} (hΦ : MLaw m Φ) {μ : Nat → Nat → Int32} {x1 x2 s0 : Int32} (h : ((s0 = 0) → vp_in x1 5 ∧ (((μ 9 x1.toNatClampNeg) = 10) → Q (some (.int ((-4)))) (Φ μ)) ∧ (¬ ((μ 9 x1.toNatClampNeg) = 10) → vp_in x1 5 ∧ vp_in ((10 * x1) + (μ 9 x1.toNatClampNeg)) 50 ∧ vp_in x1 5 ∧ vp_in x1 5 ∧ vp_in x1 5 ∧ Q (some (.int ((U (U μ 10 (((10 * x1) + (μ 9 x1.toNatClampNeg)).toNatClampNeg) x2) 9 x1.toNatClampNeg (((U μ 10 (((10 * x1) + (μ 9 x1.toNatClampNeg)).toNatClampNeg) x2) 9 x1.toNatClampNeg) + 1)) 9 x1.toNatClampNeg))) (Φ (U (U μ 10 (((10 * x1) + (μ 9 x1.toNatClampNeg)).toNatClampNeg) x2) 9 x1.toNatClampNeg (((U μ 10 (((10 * x1) + (μ 9 x1.toNatClampNeg)).toNatClampNeg) x2) 9 x1.toNatClampNeg) + 1))))) ∧ (¬ (s0 = 0) → Q (some (.int ((-2)))) (Φ μ))) : wpE (xT 142) ev Q (32, [(0, .ref m), (1, .int x1), (2, .int x2)], [.int s0], Φ μ) := by
  refine p_if rfl (fun c => ?_) (fun c => ?_)
  · have h := h.1 c
    refine p_ald rfl rfl ?_
    refine pm_getp hΦ rfl (c := 9) rfl (by decide) ?_
    refine p_ild rfl rfl ?_
    obtain ⟨g, h⟩ := h
    refine pm_aldi hΦ (c := 9) (n := 5) rfl (by decide) rfl rfl g rfl ?_
    refine p_push (v := .int 10) rfl ?_
    refine p_icmp rfl (fun c => ?_) (fun c => ?_)
    · have h := h.1 c
      refine p_push (v := .int (-4)) rfl ?_
      exact p_ri rfl trivial h
    · have h := h.2 c
      refine p_ald rfl rfl ?_
      refine pm_getp hΦ rfl (c := 10) rfl (by decide) ?_
      refine p_push (v := .int 10) rfl ?_
      refine p_ild rfl rfl ?_
      refine p_bin rfl ?_
      refine p_ald rfl rfl ?_
      refine pm_getp hΦ rfl (c := 9) rfl (by decide) ?_
      refine p_ild rfl rfl ?_
      obtain ⟨g, h⟩ := h
      refine pm_aldi hΦ (c := 9) (n := 5) rfl (by decide) rfl rfl g rfl ?_
      refine p_bin rfl ?_
      refine p_ild rfl rfl ?_
      obtain ⟨g, h⟩ := h
      refine pm_asti hΦ (c := 10) (n := 50) rfl (by decide) rfl rfl g ?_
      refine p_ald rfl rfl ?_
      refine pm_getp hΦ rfl (c := 9) rfl (by decide) ?_
      refine p_ild rfl rfl ?_
      refine p_dup2 rfl rfl rfl ?_
      obtain ⟨g, h⟩ := h
      refine pm_aldi hΦ (c := 9) (n := 5) rfl (by decide) rfl rfl g rfl ?_
      refine p_push (v := .int 1) rfl ?_
      refine p_bin rfl ?_
      obtain ⟨g, h⟩ := h
      refine pm_asti hΦ (c := 9) (n := 5) rfl (by decide) rfl rfl g ?_
      refine p_ald rfl rfl ?_
      refine pm_getp hΦ rfl (c := 9) rfl (by decide) ?_
      refine p_ild rfl rfl ?_
      obtain ⟨g, h⟩ := h
      refine pm_aldi hΦ (c := 9) (n := 5) rfl (by decide) rfl rfl g rfl ?_
      exact p_ri rfl trivial h
  · have h := h.2 c
    refine p_loc (ls' := []) rfl ?_
    refine p_push (v := .int (-2)) rfl ?_
    exact p_ri rfl trivial h
theorem B143_0 {ev : xV} {Q : Option Value → xM → Prop} {m : Nat} {Φ : (Nat → Nat → Int32) → xM} (hΦ : MLaw m Φ) {μ : Nat → Nat → Int32} {x1 : Int32} (h : (∃ r μ', ev 129 [.ref m, .int x1, .int 0, .int ((μ 0 8) - 1)] (Φ μ) (some (.int r)) (Φ μ') ∧ wpE (xT 143) ev Q (12, [(0, .ref m), (1, .int x1)], [.int r], Φ μ'))) : wpE (xT 143) ev Q (0, [(0, .ref m), (1, .int x1)], [], Φ μ) := by
  refine p_ald rfl rfl ?_
  refine p_ild rfl rfl ?_
  refine p_push (v := .int 0) rfl ?_
  refine p_ald rfl rfl ?_
  refine pm_geti hΦ (v := μ 0 8) rfl rfl ?_
  refine p_push (v := .int 1) rfl ?_
  refine p_bin rfl ?_
  obtain ⟨r, μ', he, h⟩ := h
  exact p_callV rfl (Nat.le_of_ble_eq_true rfl) rfl rfl (Nat.le_of_ble_eq_true rfl) (ml_kd hΦ) he h
theorem B143_12 {ev : xV} {Q : Option Value → xM → Prop} {m : Nat} {Φ : (Nat → Nat → Int32) → xM} (hΦ : MLaw m Φ) {μ : Nat → Nat → Int32} {x1 s0 : Int32} (h : ((s0 = 0 ∨ s0 = 1) ∧ Q (some (.int s0)) (Φ μ))) : wpE (xT 143) ev Q (12, [(0, .ref m), (1, .int x1)], [.int s0], Φ μ) := by
  exact p_ri rfl h.1 h.2
theorem B144_0 {ev : xV} {Q : Option Value → xM → Prop} {m : Nat} {Φ : (Nat → Nat → Int32) → xM} (hΦ : MLaw m Φ) {μ : Nat → Nat → Int32} {x1 x2 x3 : Int32} (h : wpE (xT 144) ev Q (6, [(0, .ref m), (1, .int x1), (2, .int x2), (3, .int x3), (4, .int 0), (5, .int 0)], [], Φ μ)) : wpE (xT 144) ev Q (0, [(0, .ref m), (1, .int x1), (2, .int x2), (3, .int x3)], [], Φ μ) := by
  refine p_push (v := .int 0) rfl ?_
  refine p_ist (ls' := [(4, .int 0), (0, .ref m), (1, .int x1), (2, .int x2), (3, .int x3)]) rfl (by decide) rfl ?_
  refine p_push (v := .int 0) rfl ?_
  refine p_ist (ls' := [(5, .int 0), (4, .int 0), (0, .ref m), (1, .int x1), (2, .int x2), (3, .int x3)]) rfl (by decide) rfl ?_
  exact p_loc (ls' := [(0, .ref m), (1, .int x1), (2, .int x2), (3, .int x3), (4, .int 0), (5, .int 0)]) rfl h
theorem B144_6 {ev : xV} {Q : Option Value → xM → Prop} {m : Nat} {Φ : (Nat → Nat → Int32) → xM} (hΦ : MLaw m Φ) {μ : Nat → Nat → Int32} {x1 x2 x3 x4 x5 : Int32} (h : vp_in x1 5 ∧ (((μ 9 x1.toNatClampNeg) ≤ x5) → ((x4 = 0 ∨ x4 = 1) ∧ Q (some (.int x4)) (Φ μ))) ∧ (¬ ((μ 9 x1.toNatClampNeg) ≤ x5) → ((x4 = 0) → vp_in ((10 * x1) + x5) 50 ∧ (((μ 10 ((10 * x1) + x5).toNatClampNeg) < x2) → wpE (xT 144) ev Q (6, [(0, .ref m), (1, .int x1), (2, .int x2), (3, .int x3), (4, .int 0), (5, .int (x5 + 1))], [], Φ μ)) ∧ (¬ ((μ 10 ((10 * x1) + x5).toNatClampNeg) < x2) → vp_in ((10 * x1) + x5) 50 ∧ (((x2 + x3) ≤ (μ 10 ((10 * x1) + x5).toNatClampNeg)) → wpE (xT 144) ev Q (6, [(0, .ref m), (1, .int x1), (2, .int x2), (3, .int x3), (4, .int 0), (5, .int (x5 + 1))], [], Φ μ)) ∧ (¬ ((x2 + x3) ≤ (μ 10 ((10 * x1) + x5).toNatClampNeg)) → wpE (xT 144) ev Q (6, [(0, .ref m), (1, .int x1), (2, .int x2), (3, .int x3), (4, .int 1), (5, .int (x5 + 1))], [], Φ μ)))) ∧ (¬ (x4 = 0) → wpE (xT 144) ev Q (6, [(0, .ref m), (1, .int x1), (2, .int x2), (3, .int x3), (4, .int 1), (5, .int (x5 + 1))], [], Φ μ)))) : wpE (xT 144) ev Q (6, [(0, .ref m), (1, .int x1), (2, .int x2), (3, .int x3), (4, .int x4), (5, .int x5)], [], Φ μ) := by
  refine p_ild rfl rfl ?_
  refine p_ald rfl rfl ?_
  refine pm_getp hΦ rfl (c := 9) rfl (by decide) ?_
  refine p_ild rfl rfl ?_
  obtain ⟨g, h⟩ := h
  refine pm_aldi hΦ (c := 9) (n := 5) rfl (by decide) rfl rfl g rfl ?_
  refine p_icmp rfl (fun c => ?_) (fun c => ?_)
  · have h := h.1 c
    refine p_ild rfl rfl ?_
    exact p_ri rfl h.1 h.2
  · have h := h.2 c
    refine p_ild rfl rfl ?_
    refine p_if rfl (fun c => ?_) (fun c => ?_)
    · have h := h.1 c
      refine p_ald rfl rfl ?_
      refine pm_getp hΦ rfl (c := 10) rfl (by decide) ?_
      refine p_push (v := .int 10) rfl ?_
      refine p_ild rfl rfl ?_
      refine p_bin rfl ?_
      refine p_ild rfl rfl ?_
      refine p_bin rfl ?_
      obtain ⟨g, h⟩ := h
      refine pm_aldi hΦ (c := 10) (n := 50) rfl (by decide) rfl rfl g rfl ?_
      refine p_ild rfl rfl ?_
      refine p_icmp rfl (fun c => ?_) (fun c => ?_)
      · have h := h.1 c
        refine p_loc (ls' := [(0, .ref m), (1, .int x1), (2, .int x2), (3, .int x3), (5, .int x5)]) rfl ?_
        refine p_push (v := .int 0) rfl ?_
        refine p_ist (ls' := [(4, .int 0), (0, .ref m), (1, .int x1), (2, .int x2), (3, .int x3), (5, .int x5)]) rfl (by decide) rfl ?_
        refine p_iinc (y := x5 + 1) (ls' := [(5, .int (x5 + 1)), (4, .int 0), (0, .ref m), (1, .int x1), (2, .int x2), (3, .int x3)]) rfl (by decide) rfl rfl rfl ?_
        refine p_goto rfl ?_
        exact p_loc (ls' := [(0, .ref m), (1, .int x1), (2, .int x2), (3, .int x3), (4, .int 0), (5, .int (x5 + 1))]) rfl h
      · have h := h.2 c
        refine p_ald rfl rfl ?_
        refine pm_getp hΦ rfl (c := 10) rfl (by decide) ?_
        refine p_push (v := .int 10) rfl ?_
        refine p_ild rfl rfl ?_
        refine p_bin rfl ?_
        refine p_ild rfl rfl ?_
        refine p_bin rfl ?_
        obtain ⟨g, h⟩ := h
        refine pm_aldi hΦ (c := 10) (n := 50) rfl (by decide) rfl rfl g rfl ?_
        refine p_ild rfl rfl ?_
        refine p_ild rfl rfl ?_
        refine p_bin rfl ?_
        refine p_icmp rfl (fun c => ?_) (fun c => ?_)
        · have h := h.1 c
          refine p_loc (ls' := [(0, .ref m), (1, .int x1), (2, .int x2), (3, .int x3), (5, .int x5)]) rfl ?_
          refine p_push (v := .int 0) rfl ?_
          refine p_ist (ls' := [(4, .int 0), (0, .ref m), (1, .int x1), (2, .int x2), (3, .int x3), (5, .int x5)]) rfl (by decide) rfl ?_
          refine p_iinc (y := x5 + 1) (ls' := [(5, .int (x5 + 1)), (4, .int 0), (0, .ref m), (1, .int x1), (2, .int x2), (3, .int x3)]) rfl (by decide) rfl rfl rfl ?_
          refine p_goto rfl ?_
          exact p_loc (ls' := [(0, .ref m), (1, .int x1), (2, .int x2), (3, .int x3), (4, .int 0), (5, .int (x5 + 1))]) rfl h
        · have h := h.2 c
          refine p_loc (ls' := [(0, .ref m), (1, .int x1), (2, .int x2), (3, .int x3), (5, .int x5)]) rfl ?_
          refine p_push (v := .int 1) rfl ?_
          refine p_goto rfl ?_
          refine p_ist (ls' := [(4, .int 1), (0, .ref m), (1, .int x1), (2, .int x2), (3, .int x3), (5, .int x5)]) rfl (by decide) rfl ?_
          refine p_iinc (y := x5 + 1) (ls' := [(5, .int (x5 + 1)), (4, .int 1), (0, .ref m), (1, .int x1), (2, .int x2), (3, .int x3)]) rfl (by decide) rfl rfl rfl ?_
          refine p_goto rfl ?_
          exact p_loc (ls' := [(0, .ref m), (1, .int x1), (2, .int x2), (3, .int x3), (4, .int 1), (5, .int (x5 + 1))]) rfl h
    · have h := h.2 c
      refine p_loc (ls' := [(0, .ref m), (1, .int x1), (2, .int x2), (3, .int x3), (5, .int x5)]) rfl ?_
      refine p_push (v := .int 1) rfl ?_
      refine p_goto rfl ?_
      refine p_ist (ls' := [(4, .int 1), (0, .ref m), (1, .int x1), (2, .int x2), (3, .int x3), (5, .int x5)]) rfl (by decide) rfl ?_
      refine p_iinc (y := x5 + 1) (ls' := [(5, .int (x5 + 1)), (4, .int 1), (0, .ref m), (1, .int x1), (2, .int x2), (3, .int x3)]) rfl (by decide) rfl rfl rfl ?_
      refine p_goto rfl ?_
      exact p_loc (ls' := [(0, .ref m), (1, .int x1), (2, .int x2), (3, .int x3), (4, .int 1), (5, .int (x5 + 1))]) rfl h
theorem B145_0 {ev : xV} {Q : Option Value → xM → Prop} {m : Nat} {Φ : (Nat → Nat → Int32) → xM} (hΦ : MLaw m Φ) {μ : Nat → Nat → Int32} {x1 x2 x3 x4 : Int32} (h : (∃ r μ', ev 129 [.ref m, .int x1, .int 0, .int 5] (Φ μ) (some (.int r)) (Φ μ') ∧ wpE (xT 145) ev Q (31, [(8, .int (x3 - x3 / 100 * 100)), (7, .int (x3 / 100)), (6, .int (x2 - x2 / 100 * 100)), (5, .int (x2 / 100)), (0, .ref m), (1, .int x1), (2, .int x2), (3, .int x3), (4, .int x4)], [.int r], Φ μ'))) : wpE (xT 145) ev Q (0, [(0, .ref m), (1, .int x1), (2, .int x2), (3, .int x3), (4, .int x4)], [], Φ μ) := by
  refine p_ild rfl rfl ?_
  refine p_push (v := .int 100) rfl ?_
  refine p_div rfl (by decide) ?_
  refine p_ist (ls' := [(5, .int (x2 / 100)), (0, .ref m), (1, .int x1), (2, .int x2), (3, .int x3), (4, .int x4)]) rfl (by decide) rfl ?_
  refine p_ild rfl rfl ?_
  refine p_push (v := .int 100) rfl ?_
  refine p_div rfl (by decide) ?_
  refine p_ist (ls' := [(6, .int (x2 - x2 / 100 * 100)), (5, .int (x2 / 100)), (0, .ref m), (1, .int x1), (2, .int x2), (3, .int x3), (4, .int x4)]) rfl (by decide) rfl ?_
  refine p_ild rfl rfl ?_
  refine p_push (v := .int 100) rfl ?_
  refine p_div rfl (by decide) ?_
  refine p_ist (ls' := [(7, .int (x3 / 100)), (6, .int (x2 - x2 / 100 * 100)), (5, .int (x2 / 100)), (0, .ref m), (1, .int x1), (2, .int x2), (3, .int x3), (4, .int x4)]) rfl (by decide) rfl ?_
  refine p_ild rfl rfl ?_
  refine p_push (v := .int 100) rfl ?_
  refine p_div rfl (by decide) ?_
  refine p_ist (ls' := [(8, .int (x3 - x3 / 100 * 100)), (7, .int (x3 / 100)), (6, .int (x2 - x2 / 100 * 100)), (5, .int (x2 / 100)), (0, .ref m), (1, .int x1), (2, .int x2), (3, .int x3), (4, .int x4)]) rfl (by decide) rfl ?_
  refine p_ald rfl rfl ?_
  refine p_ild rfl rfl ?_
  refine p_push (v := .int 0) rfl ?_
  refine p_push (v := .int 5) rfl ?_
  obtain ⟨r, μ', he, h⟩ := h
  exact p_callV rfl (Nat.le_of_ble_eq_true rfl) rfl rfl (Nat.le_of_ble_eq_true rfl) (ml_kd hΦ) he h
theorem B145_31 {ev : xV} {Q : Option Value → xM → Prop} {m : Nat} {Φ : (Nat → Nat → Int32) → xM} (hΦ : MLaw m Φ) {μ : Nat → Nat → Int32} {x8 x7 x6 x5 x1 x2 x3 x4 s0 : Int32} (h : ((s0 = 0) → Q (some (.int ((-2)))) (Φ μ)) ∧ (¬ (s0 = 0) → (∃ r μ', ev 129 [.ref m, .int x5, .int 4, .int 40] (Φ μ) (some (.int r)) (Φ μ') ∧ wpE (xT 145) ev Q (43, [(8, .int x8), (7, .int x7), (6, .int x6), (5, .int x5), (0, .ref m), (1, .int x1), (2, .int x2), (3, .int x3), (4, .int x4)], [.int r], Φ μ')))) : wpE (xT 145) ev Q (31, [(8, .int x8), (7, .int x7), (6, .int x6), (5, .int x5), (0, .ref m), (1, .int x1), (2, .int x2), (3, .int x3), (4, .int x4)], [.int s0], Φ μ) := by
  refine p_if rfl (fun c => ?_) (fun c => ?_)
  · have h := h.1 c
    refine p_loc (ls' := []) rfl ?_
    refine p_push (v := .int (-2)) rfl ?_
    exact p_ri rfl trivial h
  · have h := h.2 c
    refine p_ald rfl rfl ?_
    refine p_ild rfl rfl ?_
    refine p_push (v := .int 4) rfl ?_
    refine p_push (v := .int 40) rfl ?_
    obtain ⟨r, μ', he, h⟩ := h
    exact p_callV rfl (Nat.le_of_ble_eq_true rfl) rfl rfl (Nat.le_of_ble_eq_true rfl) (ml_kd hΦ) he h
theorem B145_43 {ev : xV} {Q : Option Value → xM → Prop} {m : Nat} {Φ : (Nat → Nat → Int32) → xM} (hΦ : MLaw m Φ) {μ : Nat → Nat → Int32} {x8 x7 x6 x5 x1 x2 x3 x4 s0 : Int32} (h : ((s0 = 0) → Q (some (.int ((-2)))) (Φ μ)) ∧ (¬ (s0 = 0) → (∃ r μ', ev 129 [.ref m, .int x6, .int 20, .int 60] (Φ μ) (some (.int r)) (Φ μ') ∧ wpE (xT 145) ev Q (56, [(8, .int x8), (7, .int x7), (6, .int x6), (5, .int x5), (0, .ref m), (1, .int x1), (2, .int x2), (3, .int x3), (4, .int x4)], [.int r], Φ μ')))) : wpE (xT 145) ev Q (43, [(8, .int x8), (7, .int x7), (6, .int x6), (5, .int x5), (0, .ref m), (1, .int x1), (2, .int x2), (3, .int x3), (4, .int x4)], [.int s0], Φ μ) := by
  refine p_if rfl (fun c => ?_) (fun c => ?_)
  · have h := h.1 c
    refine p_loc (ls' := []) rfl ?_
    refine p_push (v := .int (-2)) rfl ?_
    exact p_ri rfl trivial h
  · have h := h.2 c
    refine p_ald rfl rfl ?_
    refine p_ild rfl rfl ?_
    refine p_push (v := .int 20) rfl ?_
    refine p_push (v := .int 60) rfl ?_
    obtain ⟨r, μ', he, h⟩ := h
    exact p_callV rfl (Nat.le_of_ble_eq_true rfl) rfl rfl (Nat.le_of_ble_eq_true rfl) (ml_kd hΦ) he h
theorem B145_56 {ev : xV} {Q : Option Value → xM → Prop} {m : Nat} {Φ : (Nat → Nat → Int32) → xM} (hΦ : MLaw m Φ) {μ : Nat → Nat → Int32} {x8 x7 x6 x5 x1 x2 x3 x4 s0 : Int32} (h : ((s0 = 0) → Q (some (.int ((-2)))) (Φ μ)) ∧ (¬ (s0 = 0) → (∃ r μ', ev 129 [.ref m, .int x7, .int 4, .int 24] (Φ μ) (some (.int r)) (Φ μ') ∧ wpE (xT 145) ev Q (68, [(8, .int x8), (7, .int x7), (6, .int x6), (5, .int x5), (0, .ref m), (1, .int x1), (2, .int x2), (3, .int x3), (4, .int x4)], [.int r], Φ μ')))) : wpE (xT 145) ev Q (56, [(8, .int x8), (7, .int x7), (6, .int x6), (5, .int x5), (0, .ref m), (1, .int x1), (2, .int x2), (3, .int x3), (4, .int x4)], [.int s0], Φ μ) := by
  refine p_if rfl (fun c => ?_) (fun c => ?_)
  · have h := h.1 c
    refine p_loc (ls' := []) rfl ?_
    refine p_push (v := .int (-2)) rfl ?_
    exact p_ri rfl trivial h
  · have h := h.2 c
    refine p_ald rfl rfl ?_
    refine p_ild rfl rfl ?_
    refine p_push (v := .int 4) rfl ?_
    refine p_push (v := .int 24) rfl ?_
    obtain ⟨r, μ', he, h⟩ := h
    exact p_callV rfl (Nat.le_of_ble_eq_true rfl) rfl rfl (Nat.le_of_ble_eq_true rfl) (ml_kd hΦ) he h
theorem B145_68 {ev : xV} {Q : Option Value → xM → Prop} {m : Nat} {Φ : (Nat → Nat → Int32) → xM} (hΦ : MLaw m Φ) {μ : Nat → Nat → Int32} {x8 x7 x6 x5 x1 x2 x3 x4 s0 : Int32} (h : ((s0 = 0) → Q (some (.int ((-2)))) (Φ μ)) ∧ (¬ (s0 = 0) → (∃ r μ', ev 129 [.ref m, .int x8, .int 20, .int x6] (Φ μ) (some (.int r)) (Φ μ') ∧ wpE (xT 145) ev Q (81, [(8, .int x8), (7, .int x7), (6, .int x6), (5, .int x5), (0, .ref m), (1, .int x1), (2, .int x2), (3, .int x3), (4, .int x4)], [.int r], Φ μ')))) : wpE (xT 145) ev Q (68, [(8, .int x8), (7, .int x7), (6, .int x6), (5, .int x5), (0, .ref m), (1, .int x1), (2, .int x2), (3, .int x3), (4, .int x4)], [.int s0], Φ μ) := by
  refine p_if rfl (fun c => ?_) (fun c => ?_)
  · have h := h.1 c
    refine p_loc (ls' := []) rfl ?_
    refine p_push (v := .int (-2)) rfl ?_
    exact p_ri rfl trivial h
  · have h := h.2 c
    refine p_ald rfl rfl ?_
    refine p_ild rfl rfl ?_
    refine p_push (v := .int 20) rfl ?_
    refine p_ild rfl rfl ?_
    obtain ⟨r, μ', he, h⟩ := h
    exact p_callV rfl (Nat.le_of_ble_eq_true rfl) rfl rfl (Nat.le_of_ble_eq_true rfl) (ml_kd hΦ) he h
theorem B145_81 {ev : xV} {Q : Option Value → xM → Prop} {m : Nat} {Φ : (Nat → Nat → Int32) → xM} (hΦ : MLaw m Φ) {μ : Nat → Nat → Int32} {x8 x7 x6 x5 x1 x2 x3 x4 s0 : Int32} (h : ((s0 = 0) → Q (some (.int ((-2)))) (Φ μ)) ∧ (¬ (s0 = 0) → (∃ r μ', ev 129 [.ref m, .int x4, .int 0, .int 9] (Φ μ) (some (.int r)) (Φ μ') ∧ wpE (xT 145) ev Q (93, [(8, .int x8), (7, .int x7), (6, .int x6), (5, .int x5), (0, .ref m), (1, .int x1), (2, .int x2), (3, .int x3), (4, .int x4)], [.int r], Φ μ')))) : wpE (xT 145) ev Q (81, [(8, .int x8), (7, .int x7), (6, .int x6), (5, .int x5), (0, .ref m), (1, .int x1), (2, .int x2), (3, .int x3), (4, .int x4)], [.int s0], Φ μ) := by
  refine p_if rfl (fun c => ?_) (fun c => ?_)
  · have h := h.1 c
    refine p_loc (ls' := []) rfl ?_
    refine p_push (v := .int (-2)) rfl ?_
    exact p_ri rfl trivial h
  · have h := h.2 c
    refine p_ald rfl rfl ?_
    refine p_ild rfl rfl ?_
    refine p_push (v := .int 0) rfl ?_
    refine p_push (v := .int 9) rfl ?_
    obtain ⟨r, μ', he, h⟩ := h
    exact p_callV rfl (Nat.le_of_ble_eq_true rfl) rfl rfl (Nat.le_of_ble_eq_true rfl) (ml_kd hΦ) he h
theorem B145_93 {ev : xV} {Q : Option Value → xM → Prop} {m : Nat} {Φ : (Nat → Nat → Int32) → xM} (hΦ : MLaw m Φ) {μ : Nat → Nat → Int32} {x8 x7 x6 x5 x1 x2 x3 x4 s0 : Int32} (h : ((s0 = 0) → Q (some (.int ((-2)))) (Φ μ)) ∧ (¬ (s0 = 0) → (¬ (2 * x7) = 0) ∧ (((((x6 - x8) * x5) / 2) ≤ (x7 * (((x6 * x5) / (2 * x7)) - 1))) → (((μ 0 13) = 8) → Q (some (.int ((-4)))) (Φ μ)) ∧ (¬ ((μ 0 13) = 8) → vp_in (μ 0 13) 8 ∧ vp_in (μ 0 13) 8 ∧ vp_in (μ 0 13) 8 ∧ vp_in (μ 0 13) 8 ∧ vp_in (μ 0 13) 8 ∧ vp_in (μ 0 13) 8 ∧ vp_in (μ 0 13) 8 ∧ vp_in (μ 0 13) 8 ∧ vp_in (μ 0 13) 8 ∧ vp_in (μ 0 13) 8 ∧ Q (some (.int (((μ 0 13) + 1) - 1))) (Φ (U (U (U (U (U (U (U (U (U (U (U μ 11 ((μ 0 13).toNatClampNeg) x1) 12 ((μ 0 13).toNatClampNeg) x5) 13 ((μ 0 13).toNatClampNeg) x6) 14 ((μ 0 13).toNatClampNeg) x8) 15 ((μ 0 13).toNatClampNeg) x7) 16 ((μ 0 13).toNatClampNeg) x4) 17 ((μ 0 13).toNatClampNeg) ((x6 * x5) / (2 * x7))) 18 ((μ 0 13).toNatClampNeg) ((x6 * x5) - (x7 * ((x6 * x5) / (2 * x7))))) 19 ((μ 0 13).toNatClampNeg) (((x6 - x8) * x5) / 2)) 20 ((μ 0 13).toNatClampNeg) (-1)) 0 13 ((μ 0 13) + 1))))) ∧ (¬ ((((x6 - x8) * x5) / 2) ≤ (x7 * (((x6 * x5) / (2 * x7)) - 1))) → Q (some (.int ((-2)))) (Φ μ)))) : wpE (xT 145) ev Q (93, [(8, .int x8), (7, .int x7), (6, .int x6), (5, .int x5), (0, .ref m), (1, .int x1), (2, .int x2), (3, .int x3), (4, .int x4)], [.int s0], Φ μ) := by
  refine p_if rfl (fun c => ?_) (fun c => ?_)
  · have h := h.1 c
    refine p_loc (ls' := []) rfl ?_
    refine p_push (v := .int (-2)) rfl ?_
    exact p_ri rfl trivial h
  · have h := h.2 c
    refine p_ild rfl rfl ?_
    refine p_ild rfl rfl ?_
    refine p_bin rfl ?_
    refine p_push (v := .int 2) rfl ?_
    refine p_ild rfl rfl ?_
    refine p_bin rfl ?_
    obtain ⟨g, h⟩ := h
    refine p_div rfl g ?_
    refine p_ist (ls' := [(9, .int ((x6 * x5) / (2 * x7))), (8, .int x8), (7, .int x7), (6, .int x6), (5, .int x5), (0, .ref m), (1, .int x1), (2, .int x2), (3, .int x3), (4, .int x4)]) rfl (by decide) rfl ?_
    refine p_ild rfl rfl ?_
    refine p_ild rfl rfl ?_
    refine p_bin rfl ?_
    refine p_ild rfl rfl ?_
    refine p_bin rfl ?_
    refine p_push (v := .int 2) rfl ?_
    refine p_div rfl (by decide) ?_
    refine p_ist (ls' := [(10, .int (((x6 - x8) * x5) / 2)), (9, .int ((x6 * x5) / (2 * x7))), (8, .int x8), (7, .int x7), (6, .int x6), (5, .int x5), (0, .ref m), (1, .int x1), (2, .int x2), (3, .int x3), (4, .int x4)]) rfl (by decide) rfl ?_
    refine p_ild rfl rfl ?_
    refine p_ild rfl rfl ?_
    refine p_ild rfl rfl ?_
    refine p_push (v := .int 1) rfl ?_
    refine p_bin rfl ?_
    refine p_bin rfl ?_
    refine p_icmp rfl (fun c => ?_) (fun c => ?_)
    · have h := h.1 c
      refine p_ald rfl rfl ?_
      refine pm_geti hΦ (v := μ 0 13) rfl rfl ?_
      refine p_push (v := .int 8) rfl ?_
      refine p_icmp rfl (fun c => ?_) (fun c => ?_)
      · have h := h.1 c
        refine p_push (v := .int (-4)) rfl ?_
        exact p_ri rfl trivial h
      · have h := h.2 c
        refine p_ald rfl rfl ?_
        refine pm_getp hΦ rfl (c := 11) rfl (by decide) ?_
        refine p_ald rfl rfl ?_
        refine pm_geti hΦ (v := μ 0 13) rfl rfl ?_
        refine p_ild rfl rfl ?_
        obtain ⟨g, h⟩ := h
        refine pm_asti hΦ (c := 11) (n := 8) rfl (by decide) rfl rfl g ?_
        refine p_ald rfl rfl ?_
        refine pm_getp hΦ rfl (c := 12) rfl (by decide) ?_
        refine p_ald rfl rfl ?_
        refine pm_geti hΦ (v := μ 0 13) rfl rfl ?_
        refine p_ild rfl rfl ?_
        obtain ⟨g, h⟩ := h
        refine pm_asti hΦ (c := 12) (n := 8) rfl (by decide) rfl rfl g ?_
        refine p_ald rfl rfl ?_
        refine pm_getp hΦ rfl (c := 13) rfl (by decide) ?_
        refine p_ald rfl rfl ?_
        refine pm_geti hΦ (v := μ 0 13) rfl rfl ?_
        refine p_ild rfl rfl ?_
        obtain ⟨g, h⟩ := h
        refine pm_asti hΦ (c := 13) (n := 8) rfl (by decide) rfl rfl g ?_
        refine p_ald rfl rfl ?_
        refine pm_getp hΦ rfl (c := 14) rfl (by decide) ?_
        refine p_ald rfl rfl ?_
        refine pm_geti hΦ (v := μ 0 13) rfl rfl ?_
        refine p_ild rfl rfl ?_
        obtain ⟨g, h⟩ := h
        refine pm_asti hΦ (c := 14) (n := 8) rfl (by decide) rfl rfl g ?_
        refine p_ald rfl rfl ?_
        refine pm_getp hΦ rfl (c := 15) rfl (by decide) ?_
        refine p_ald rfl rfl ?_
        refine pm_geti hΦ (v := μ 0 13) rfl rfl ?_
        refine p_ild rfl rfl ?_
        obtain ⟨g, h⟩ := h
        refine pm_asti hΦ (c := 15) (n := 8) rfl (by decide) rfl rfl g ?_
        refine p_ald rfl rfl ?_
        refine pm_getp hΦ rfl (c := 16) rfl (by decide) ?_
        refine p_ald rfl rfl ?_
        refine pm_geti hΦ (v := μ 0 13) rfl rfl ?_
        refine p_ild rfl rfl ?_
        obtain ⟨g, h⟩ := h
        refine pm_asti hΦ (c := 16) (n := 8) rfl (by decide) rfl rfl g ?_
        refine p_ald rfl rfl ?_
        refine pm_getp hΦ rfl (c := 17) rfl (by decide) ?_
        refine p_ald rfl rfl ?_
        refine pm_geti hΦ (v := μ 0 13) rfl rfl ?_
        refine p_ild rfl rfl ?_
        obtain ⟨g, h⟩ := h
        refine pm_asti hΦ (c := 17) (n := 8) rfl (by decide) rfl rfl g ?_
        refine p_ald rfl rfl ?_
        refine pm_getp hΦ rfl (c := 18) rfl (by decide) ?_
        refine p_ald rfl rfl ?_
        refine pm_geti hΦ (v := μ 0 13) rfl rfl ?_
        refine p_ild rfl rfl ?_
        refine p_ild rfl rfl ?_
        refine p_bin rfl ?_
        refine p_ild rfl rfl ?_
        refine p_ild rfl rfl ?_
        refine p_bin rfl ?_
        refine p_bin rfl ?_
        obtain ⟨g, h⟩ := h
        refine pm_asti hΦ (c := 18) (n := 8) rfl (by decide) rfl rfl g ?_
        refine p_ald rfl rfl ?_
        refine pm_getp hΦ rfl (c := 19) rfl (by decide) ?_
        refine p_ald rfl rfl ?_
        refine pm_geti hΦ (v := μ 0 13) rfl rfl ?_
        refine p_ild rfl rfl ?_
        obtain ⟨g, h⟩ := h
        refine pm_asti hΦ (c := 19) (n := 8) rfl (by decide) rfl rfl g ?_
        refine p_ald rfl rfl ?_
        refine pm_getp hΦ rfl (c := 20) rfl (by decide) ?_
        refine p_ald rfl rfl ?_
        refine pm_geti hΦ (v := μ 0 13) rfl rfl ?_
        refine p_push (v := .int (-1)) rfl ?_
        obtain ⟨g, h⟩ := h
        refine pm_asti hΦ (c := 20) (n := 8) rfl (by decide) rfl rfl g ?_
        refine p_ald rfl rfl ?_
        refine p_dup rfl rfl ?_
        refine pm_geti hΦ (v := μ 0 13) rfl rfl ?_
        refine p_push (v := .int 1) rfl ?_
        refine p_bin rfl ?_
        refine pm_puti hΦ rfl ?_
        refine p_ald rfl rfl ?_
        refine pm_geti hΦ (v := (μ 0 13) + 1) rfl rfl ?_
        refine p_push (v := .int 1) rfl ?_
        refine p_bin rfl ?_
        exact p_ri rfl trivial h
    · have h := h.2 c
      refine p_push (v := .int (-2)) rfl ?_
      exact p_ri rfl trivial h
theorem B146_0 {ev : xV} {Q : Option Value → xM → Prop} {m : Nat} {Φ : (Nat → Nat → Int32) → xM} (hΦ : MLaw m Φ) {μ : Nat → Nat → Int32} {x1 x2 : Int32} (h : (∃ r μ', ev 147 [.ref m, .int x1] (Φ μ) (some (.int r)) (Φ μ') ∧ wpE (xT 146) ev Q (5, [(0, .ref m), (1, .int x1), (2, .int x2)], [.int r], Φ μ'))) : wpE (xT 146) ev Q (0, [(0, .ref m), (1, .int x1), (2, .int x2)], [], Φ μ) := by
  refine p_ald rfl rfl ?_
  refine p_ild rfl rfl ?_
  obtain ⟨r, μ', he, h⟩ := h
  exact p_callV rfl (Nat.le_of_ble_eq_true rfl) rfl rfl (Nat.le_of_ble_eq_true rfl) (ml_kd hΦ) he h
theorem B146_5 {ev : xV} {Q : Option Value → xM → Prop} {m : Nat} {Φ : (Nat → Nat → Int32) → xM} (hΦ : MLaw m Φ) {μ : Nat → Nat → Int32} {x1 x2 s0 : Int32} (h : ((s0 = 0) → Q (some (.int ((-2)))) (Φ μ)) ∧ (¬ (s0 = 0) → ((x2 = 0) → vp_in x1 8 ∧ Q (some (.int (μ 11 x1.toNatClampNeg))) (Φ μ)) ∧ (¬ (x2 = 0) → ((x2 = 1) → vp_in x1 8 ∧ Q (some (.int (μ 17 x1.toNatClampNeg))) (Φ μ)) ∧ (¬ (x2 = 1) → ((x2 = 2) → vp_in x1 8 ∧ Q (some (.int (μ 18 x1.toNatClampNeg))) (Φ μ)) ∧ (¬ (x2 = 2) → ((x2 = 3) → vp_in x1 8 ∧ Q (some (.int (μ 19 x1.toNatClampNeg))) (Φ μ)) ∧ (¬ (x2 = 3) → ((x2 = 4) → vp_in x1 8 ∧ Q (some (.int (μ 15 x1.toNatClampNeg))) (Φ μ)) ∧ (¬ (x2 = 4) → ((x2 = 5) → vp_in x1 8 ∧ Q (some (.int (μ 20 x1.toNatClampNeg))) (Φ μ)) ∧ (¬ (x2 = 5) → ((x2 = 6) → vp_in x1 8 ∧ ((0 ≤ (μ 20 x1.toNatClampNeg)) → vp_in x1 8 ∧ Q (some (.int (μ 25 x1.toNatClampNeg))) (Φ μ)) ∧ (¬ (0 ≤ (μ 20 x1.toNatClampNeg)) → Q (some (.int ((-1)))) (Φ μ))) ∧ (¬ (x2 = 6) → ((x2 = 7) → vp_in x1 8 ∧ (((μ 20 x1.toNatClampNeg) < 0) → Q (some (.int 0)) (Φ μ)) ∧ (¬ ((μ 20 x1.toNatClampNeg) < 0) → vp_in x1 8 ∧ (((μ 28 x1.toNatClampNeg) = 0) → Q (some (.int 0)) (Φ μ)) ∧ (¬ ((μ 28 x1.toNatClampNeg) = 0) → Q (some (.int 1)) (Φ μ)))) ∧ (¬ (x2 = 7) → ((x2 = 8) → vp_in x1 8 ∧ Q (some (.int (μ 12 x1.toNatClampNeg))) (Φ μ)) ∧ (¬ (x2 = 8) → ((x2 = 9) → vp_in x1 8 ∧ Q (some (.int (μ 13 x1.toNatClampNeg))) (Φ μ)) ∧ (¬ (x2 = 9) → ((x2 = 10) → vp_in x1 8 ∧ Q (some (.int (μ 14 x1.toNatClampNeg))) (Φ μ)) ∧ (¬ (x2 = 10) → Q (some (.int ((-2)))) (Φ μ)))))))))))))) : wpE (xT 146) ev Q (5, [(0, .ref m), (1, .int x1), (2, .int x2)], [.int s0], Φ μ) := by
  refine p_if rfl (fun c => ?_) (fun c => ?_)
  · have h := h.1 c
    refine p_push (v := .int (-2)) rfl ?_
    exact p_ri rfl trivial h
  · have h := h.2 c
    refine p_ild rfl rfl ?_
    refine p_sw rfl ?_
    refine ⟨fun c => ?_, fun c => ?_⟩
    · have h := h.1 c
      refine p_ald rfl rfl ?_
      refine pm_getp hΦ rfl (c := 11) rfl (by decide) ?_
      refine p_ild rfl rfl ?_
      obtain ⟨g, h⟩ := h
      refine pm_aldi hΦ (c := 11) (n := 8) rfl (by decide) rfl rfl g rfl ?_
      exact p_ri rfl trivial h
    · have h := h.2 c
      refine ⟨fun c => ?_, fun c => ?_⟩
      · have h := h.1 c
        refine p_ald rfl rfl ?_
        refine pm_getp hΦ rfl (c := 17) rfl (by decide) ?_
        refine p_ild rfl rfl ?_
        obtain ⟨g, h⟩ := h
        refine pm_aldi hΦ (c := 17) (n := 8) rfl (by decide) rfl rfl g rfl ?_
        exact p_ri rfl trivial h
      · have h := h.2 c
        refine ⟨fun c => ?_, fun c => ?_⟩
        · have h := h.1 c
          refine p_ald rfl rfl ?_
          refine pm_getp hΦ rfl (c := 18) rfl (by decide) ?_
          refine p_ild rfl rfl ?_
          obtain ⟨g, h⟩ := h
          refine pm_aldi hΦ (c := 18) (n := 8) rfl (by decide) rfl rfl g rfl ?_
          exact p_ri rfl trivial h
        · have h := h.2 c
          refine ⟨fun c => ?_, fun c => ?_⟩
          · have h := h.1 c
            refine p_ald rfl rfl ?_
            refine pm_getp hΦ rfl (c := 19) rfl (by decide) ?_
            refine p_ild rfl rfl ?_
            obtain ⟨g, h⟩ := h
            refine pm_aldi hΦ (c := 19) (n := 8) rfl (by decide) rfl rfl g rfl ?_
            exact p_ri rfl trivial h
          · have h := h.2 c
            refine ⟨fun c => ?_, fun c => ?_⟩
            · have h := h.1 c
              refine p_ald rfl rfl ?_
              refine pm_getp hΦ rfl (c := 15) rfl (by decide) ?_
              refine p_ild rfl rfl ?_
              obtain ⟨g, h⟩ := h
              refine pm_aldi hΦ (c := 15) (n := 8) rfl (by decide) rfl rfl g rfl ?_
              exact p_ri rfl trivial h
            · have h := h.2 c
              refine ⟨fun c => ?_, fun c => ?_⟩
              · have h := h.1 c
                refine p_ald rfl rfl ?_
                refine pm_getp hΦ rfl (c := 20) rfl (by decide) ?_
                refine p_ild rfl rfl ?_
                obtain ⟨g, h⟩ := h
                refine pm_aldi hΦ (c := 20) (n := 8) rfl (by decide) rfl rfl g rfl ?_
                exact p_ri rfl trivial h
              · have h := h.2 c
                refine ⟨fun c => ?_, fun c => ?_⟩
                · have h := h.1 c
                  refine p_ald rfl rfl ?_
                  refine pm_getp hΦ rfl (c := 20) rfl (by decide) ?_
                  refine p_ild rfl rfl ?_
                  obtain ⟨g, h⟩ := h
                  refine pm_aldi hΦ (c := 20) (n := 8) rfl (by decide) rfl rfl g rfl ?_
                  refine p_if rfl (fun c => ?_) (fun c => ?_)
                  · have h := h.1 c
                    refine p_ald rfl rfl ?_
                    refine pm_getp hΦ rfl (c := 25) rfl (by decide) ?_
                    refine p_ild rfl rfl ?_
                    obtain ⟨g, h⟩ := h
                    refine pm_aldi hΦ (c := 25) (n := 8) rfl (by decide) rfl rfl g rfl ?_
                    refine p_loc (ls' := []) rfl ?_
                    exact p_ri rfl trivial h
                  · have h := h.2 c
                    refine p_push (v := .int (-1)) rfl ?_
                    refine p_goto rfl ?_
                    refine p_loc (ls' := []) rfl ?_
                    exact p_ri rfl trivial h
                · have h := h.2 c
                  refine ⟨fun c => ?_, fun c => ?_⟩
                  · have h := h.1 c
                    refine p_ald rfl rfl ?_
                    refine pm_getp hΦ rfl (c := 20) rfl (by decide) ?_
                    refine p_ild rfl rfl ?_
                    obtain ⟨g, h⟩ := h
                    refine pm_aldi hΦ (c := 20) (n := 8) rfl (by decide) rfl rfl g rfl ?_
                    refine p_if rfl (fun c => ?_) (fun c => ?_)
                    · have h := h.1 c
                      refine p_loc (ls' := []) rfl ?_
                      refine p_push (v := .int 0) rfl ?_
                      exact p_ri rfl trivial h
                    · have h := h.2 c
                      refine p_ald rfl rfl ?_
                      refine pm_getp hΦ rfl (c := 28) rfl (by decide) ?_
                      refine p_ild rfl rfl ?_
                      obtain ⟨g, h⟩ := h
                      refine pm_aldi hΦ (c := 28) (n := 8) rfl (by decide) rfl rfl g rfl ?_
                      refine p_if rfl (fun c => ?_) (fun c => ?_)
                      · have h := h.1 c
                        refine p_loc (ls' := []) rfl ?_
                        refine p_push (v := .int 0) rfl ?_
                        exact p_ri rfl trivial h
                      · have h := h.2 c
                        refine p_push (v := .int 1) rfl ?_
                        refine p_goto rfl ?_
                        refine p_loc (ls' := []) rfl ?_
                        exact p_ri rfl trivial h
                  · have h := h.2 c
                    refine ⟨fun c => ?_, fun c => ?_⟩
                    · have h := h.1 c
                      refine p_ald rfl rfl ?_
                      refine pm_getp hΦ rfl (c := 12) rfl (by decide) ?_
                      refine p_ild rfl rfl ?_
                      obtain ⟨g, h⟩ := h
                      refine pm_aldi hΦ (c := 12) (n := 8) rfl (by decide) rfl rfl g rfl ?_
                      exact p_ri rfl trivial h
                    · have h := h.2 c
                      refine ⟨fun c => ?_, fun c => ?_⟩
                      · have h := h.1 c
                        refine p_ald rfl rfl ?_
                        refine pm_getp hΦ rfl (c := 13) rfl (by decide) ?_
                        refine p_ild rfl rfl ?_
                        obtain ⟨g, h⟩ := h
                        refine pm_aldi hΦ (c := 13) (n := 8) rfl (by decide) rfl rfl g rfl ?_
                        exact p_ri rfl trivial h
                      · have h := h.2 c
                        refine ⟨fun c => ?_, fun c => ?_⟩
                        · have h := h.1 c
                          refine p_ald rfl rfl ?_
                          refine pm_getp hΦ rfl (c := 14) rfl (by decide) ?_
                          refine p_ild rfl rfl ?_
                          obtain ⟨g, h⟩ := h
                          refine pm_aldi hΦ (c := 14) (n := 8) rfl (by decide) rfl rfl g rfl ?_
                          exact p_ri rfl trivial h
                        · have h := h.2 c
                          refine p_push (v := .int (-2)) rfl ?_
                          exact p_ri rfl trivial h
theorem B147_0 {ev : xV} {Q : Option Value → xM → Prop} {m : Nat} {Φ : (Nat → Nat → Int32) → xM} (hΦ : MLaw m Φ) {μ : Nat → Nat → Int32} {x1 : Int32} (h : (∃ r μ', ev 129 [.ref m, .int x1, .int 0, .int ((μ 0 13) - 1)] (Φ μ) (some (.int r)) (Φ μ') ∧ wpE (xT 147) ev Q (12, [(0, .ref m), (1, .int x1)], [.int r], Φ μ'))) : wpE (xT 147) ev Q (0, [(0, .ref m), (1, .int x1)], [], Φ μ) := by
  refine p_ald rfl rfl ?_
  refine p_ild rfl rfl ?_
  refine p_push (v := .int 0) rfl ?_
  refine p_ald rfl rfl ?_
  refine pm_geti hΦ (v := μ 0 13) rfl rfl ?_
  refine p_push (v := .int 1) rfl ?_
  refine p_bin rfl ?_
  obtain ⟨r, μ', he, h⟩ := h
  exact p_callV rfl (Nat.le_of_ble_eq_true rfl) rfl rfl (Nat.le_of_ble_eq_true rfl) (ml_kd hΦ) he h
theorem B147_12 {ev : xV} {Q : Option Value → xM → Prop} {m : Nat} {Φ : (Nat → Nat → Int32) → xM} (hΦ : MLaw m Φ) {μ : Nat → Nat → Int32} {x1 s0 : Int32} (h : ((s0 = 0 ∨ s0 = 1) ∧ Q (some (.int s0)) (Φ μ))) : wpE (xT 147) ev Q (12, [(0, .ref m), (1, .int x1)], [.int s0], Φ μ) := by
  exact p_ri rfl h.1 h.2
theorem B148_0 {ev : xV} {Q : Option Value → xM → Prop} {m : Nat} {Φ : (Nat → Nat → Int32) → xM} (hΦ : MLaw m Φ) {μ : Nat → Nat → Int32} {x1 x2 : Int32} (h : (∃ r μ', ev 147 [.ref m, .int x1] (Φ μ) (some (.int r)) (Φ μ') ∧ wpE (xT 148) ev Q (5, [(0, .ref m), (1, .int x1), (2, .int x2)], [.int r], Φ μ'))) : wpE (xT 148) ev Q (0, [(0, .ref m), (1, .int x1), (2, .int x2)], [], Φ μ) := by
  refine p_ald rfl rfl ?_
  refine p_ild rfl rfl ?_
  obtain ⟨r, μ', he, h⟩ := h
  exact p_callV rfl (Nat.le_of_ble_eq_true rfl) rfl rfl (Nat.le_of_ble_eq_true rfl) (ml_kd hΦ) he h
theorem B148_5 {ev : xV} {Q : Option Value → xM → Prop} {m : Nat} {Φ : (Nat → Nat → Int32) → xM} (hΦ : MLaw m Φ) {μ : Nat → Nat → Int32} {x1 x2 s0 : Int32} (h : ((s0 = 0) → Q (some (.int ((-2)))) (Φ μ)) ∧ (¬ (s0 = 0) → (∃ r μ', ev 143 [.ref m, .int x2] (Φ μ) (some (.int r)) (Φ μ') ∧ wpE (xT 148) ev Q (13, [(0, .ref m), (1, .int x1), (2, .int x2)], [.int r], Φ μ')))) : wpE (xT 148) ev Q (5, [(0, .ref m), (1, .int x1), (2, .int x2)], [.int s0], Φ μ) := by
  refine p_if rfl (fun c => ?_) (fun c => ?_)
  · have h := h.1 c
    refine p_loc (ls' := []) rfl ?_
    refine p_push (v := .int (-2)) rfl ?_
    exact p_ri rfl trivial h
  · have h := h.2 c
    refine p_ald rfl rfl ?_
    refine p_ild rfl rfl ?_
    obtain ⟨r, μ', he, h⟩ := h
    exact p_callV rfl (Nat.le_of_ble_eq_true rfl) rfl rfl (Nat.le_of_ble_eq_true rfl) (ml_kd hΦ) he h
theorem B148_13 {ev : xV} {Q : Option Value → xM → Prop} {m : Nat} {Φ : (Nat → Nat → Int32) → xM} (hΦ : MLaw m Φ) {μ : Nat → Nat → Int32} {x1 x2 s0 : Int32} (h : ((s0 = 0) → Q (some (.int ((-2)))) (Φ μ)) ∧ (¬ (s0 = 0) → vp_in x2 5 ∧ (∃ r μ', ev 149 [.ref m, .int x1, .int (μ 7 x2.toNatClampNeg)] (Φ μ) (some (.int r)) (Φ μ') ∧ wpE (xT 148) ev Q (27, [(0, .ref m), (1, .int x1), (2, .int x2)], [.int r], Φ μ')))) : wpE (xT 148) ev Q (13, [(0, .ref m), (1, .int x1), (2, .int x2)], [.int s0], Φ μ) := by
  refine p_if rfl (fun c => ?_) (fun c => ?_)
  · have h := h.1 c
    refine p_loc (ls' := []) rfl ?_
    refine p_push (v := .int (-2)) rfl ?_
    exact p_ri rfl trivial h
  · have h := h.2 c
    refine p_ald rfl rfl ?_
    refine p_ild rfl rfl ?_
    refine p_ald rfl rfl ?_
    refine pm_getp hΦ rfl (c := 7) rfl (by decide) ?_
    refine p_ild rfl rfl ?_
    obtain ⟨g, h⟩ := h
    refine pm_aldi hΦ (c := 7) (n := 5) rfl (by decide) rfl rfl g rfl ?_
    obtain ⟨r, μ', he, h⟩ := h
    exact p_callV rfl (Nat.le_of_ble_eq_true rfl) rfl rfl (Nat.le_of_ble_eq_true rfl) (ml_kd hΦ) he h
theorem B148_27 {ev : xV} {Q : Option Value → xM → Prop} {m : Nat} {Φ : (Nat → Nat → Int32) → xM} (hΦ : MLaw m Φ) {μ : Nat → Nat → Int32} {x1 x2 s0 : Int32} (h : ((s0 = 0) → Q (some (.int ((-2)))) (Φ μ)) ∧ (¬ (s0 = 0) → vp_in x2 5 ∧ (∃ r μ', ev 151 [.ref m, .int x1, .int x2, .int (μ 7 x2.toNatClampNeg)] (Φ μ) (some (.int r)) (Φ μ') ∧ wpE (xT 148) ev Q (45, [(0, .ref m), (1, .int x1), (2, .int x2)], [.int r], Φ μ')))) : wpE (xT 148) ev Q (27, [(0, .ref m), (1, .int x1), (2, .int x2)], [.int s0], Φ μ) := by
  refine p_if rfl (fun c => ?_) (fun c => ?_)
  · have h := h.1 c
    refine p_loc (ls' := []) rfl ?_
    refine p_push (v := .int (-2)) rfl ?_
    exact p_ri rfl trivial h
  · have h := h.2 c
    refine p_ald rfl rfl ?_
    refine p_ild rfl rfl ?_
    refine p_ild rfl rfl ?_
    refine p_ald rfl rfl ?_
    refine pm_getp hΦ rfl (c := 7) rfl (by decide) ?_
    refine p_ild rfl rfl ?_
    obtain ⟨g, h⟩ := h
    refine pm_aldi hΦ (c := 7) (n := 5) rfl (by decide) rfl rfl g rfl ?_
    obtain ⟨r, μ', he, h⟩ := h
    exact p_callV rfl (Nat.le_of_ble_eq_true rfl) rfl rfl (Nat.le_of_ble_eq_true rfl) (ml_kd hΦ) he h
theorem B148_45 {ev : xV} {Q : Option Value → xM → Prop} {m : Nat} {Φ : (Nat → Nat → Int32) → xM} (hΦ : MLaw m Φ) {μ : Nat → Nat → Int32} {x1 x2 s0 : Int32} (h : ((s0 = 1000000) → Q (some (.int ((-1)))) (Φ μ)) ∧ (¬ (s0 = 1000000) → vp_in x1 8 ∧ vp_in x1 8 ∧ vp_in x1 8 ∧ vp_in x1 8 ∧ vp_in x1 8 ∧ vp_in x1 8 ∧ vp_in x1 8 ∧ vp_in x1 8 ∧ wpE (xT 148) ev Q (117, [(0, .ref m), (1, .int x1), (2, .int x2), (3, .int 0)], [], Φ (U (U (U (U (U (U μ 20 x1.toNatClampNeg x2) 21 x1.toNatClampNeg (μ 0 40)) 22 x1.toNatClampNeg ((μ 0 41) - ((U (U μ 20 x1.toNatClampNeg x2) 21 x1.toNatClampNeg (μ 0 40)) 18 x1.toNatClampNeg))) 23 x1.toNatClampNeg (μ 0 39)) 25 x1.toNatClampNeg ((U (U (U (U μ 20 x1.toNatClampNeg x2) 21 x1.toNatClampNeg (μ 0 40)) 22 x1.toNatClampNeg ((μ 0 41) - ((U (U μ 20 x1.toNatClampNeg x2) 21 x1.toNatClampNeg (μ 0 40)) 18 x1.toNatClampNeg))) 23 x1.toNatClampNeg (μ 0 39)) 17 x1.toNatClampNeg)) 28 x1.toNatClampNeg (vp_nar .boolean 0))))) : wpE (xT 148) ev Q (45, [(0, .ref m), (1, .int x1), (2, .int x2)], [.int s0], Φ μ) := by
  refine p_push (v := .int 1000000) rfl ?_
  refine p_icmp rfl (fun c => ?_) (fun c => ?_)
  · have h := h.1 c
    refine p_push (v := .int (-1)) rfl ?_
    exact p_ri rfl trivial h
  · have h := h.2 c
    refine p_ald rfl rfl ?_
    refine pm_getp hΦ rfl (c := 20) rfl (by decide) ?_
    refine p_ild rfl rfl ?_
    refine p_ild rfl rfl ?_
    obtain ⟨g, h⟩ := h
    refine pm_asti hΦ (c := 20) (n := 8) rfl (by decide) rfl rfl g ?_
    refine p_ald rfl rfl ?_
    refine pm_getp hΦ rfl (c := 21) rfl (by decide) ?_
    refine p_ild rfl rfl ?_
    refine p_ald rfl rfl ?_
    refine pm_geti hΦ (v := μ 0 40) rfl rfl ?_
    obtain ⟨g, h⟩ := h
    refine pm_asti hΦ (c := 21) (n := 8) rfl (by decide) rfl rfl g ?_
    refine p_ald rfl rfl ?_
    refine pm_getp hΦ rfl (c := 22) rfl (by decide) ?_
    refine p_ild rfl rfl ?_
    refine p_ald rfl rfl ?_
    refine pm_geti hΦ (v := μ 0 41) rfl rfl ?_
    refine p_ald rfl rfl ?_
    refine pm_getp hΦ rfl (c := 18) rfl (by decide) ?_
    refine p_ild rfl rfl ?_
    obtain ⟨g, h⟩ := h
    refine pm_aldi hΦ (c := 18) (n := 8) rfl (by decide) rfl rfl g rfl ?_
    refine p_bin rfl ?_
    obtain ⟨g, h⟩ := h
    refine pm_asti hΦ (c := 22) (n := 8) rfl (by decide) rfl rfl g ?_
    refine p_ald rfl rfl ?_
    refine pm_getp hΦ rfl (c := 23) rfl (by decide) ?_
    refine p_ild rfl rfl ?_
    refine p_ald rfl rfl ?_
    refine pm_geti hΦ (v := μ 0 39) rfl rfl ?_
    obtain ⟨g, h⟩ := h
    refine pm_asti hΦ (c := 23) (n := 8) rfl (by decide) rfl rfl g ?_
    refine p_ald rfl rfl ?_
    refine pm_getp hΦ rfl (c := 25) rfl (by decide) ?_
    refine p_ild rfl rfl ?_
    refine p_ald rfl rfl ?_
    refine pm_getp hΦ rfl (c := 17) rfl (by decide) ?_
    refine p_ild rfl rfl ?_
    obtain ⟨g, h⟩ := h
    refine pm_aldi hΦ (c := 17) (n := 8) rfl (by decide) rfl rfl g rfl ?_
    obtain ⟨g, h⟩ := h
    refine pm_asti hΦ (c := 25) (n := 8) rfl (by decide) rfl rfl g ?_
    refine p_ald rfl rfl ?_
    refine pm_getp hΦ rfl (c := 28) rfl (by decide) ?_
    refine p_ild rfl rfl ?_
    refine p_push (v := .int 0) rfl ?_
    obtain ⟨g, h⟩ := h
    refine pm_asti hΦ (c := 28) (n := 8) rfl (by decide) rfl rfl g ?_
    refine p_push (v := .int 0) rfl ?_
    refine p_ist (ls' := [(3, .int 0), (0, .ref m), (1, .int x1), (2, .int x2)]) rfl (by decide) rfl ?_
    exact p_loc (ls' := [(0, .ref m), (1, .int x1), (2, .int x2), (3, .int 0)]) rfl h
theorem B148_117 {ev : xV} {Q : Option Value → xM → Prop} {m : Nat} {Φ : (Nat → Nat → Int32) → xM} (hΦ : MLaw m Φ) {μ : Nat → Nat → Int32} {x1 x2 x3 : Int32} (h : vp_in x1 8 ∧ (((μ 15 x1.toNatClampNeg) ≤ x3) → vp_in x1 8 ∧ vp_in x1 8 ∧ vp_in ((μ 15 x1.toNatClampNeg) - 1) 24 ∧ vp_in x1 8 ∧ vp_in x1 8 ∧ vp_in x2 5 ∧ (∃ r μ', ev 137 [.ref m, .int (μ 7 x2.toNatClampNeg), .int 0] (Φ μ) (some (.int r)) (Φ μ') ∧ wpE (xT 148) ev Q (218, [(0, .ref m), (1, .int x1), (2, .int x2), (3, .int x3)], [.int r, .int ((μ 18 x1.toNatClampNeg) / 2), .int ((μ 32 ((μ 15 x1.toNatClampNeg) - 1).toNatClampNeg) + (μ 17 x1.toNatClampNeg)), .ref m, .int (μ 22 x1.toNatClampNeg), .int x1, .ref (m + 24)], Φ μ'))) ∧ (¬ ((μ 15 x1.toNatClampNeg) ≤ x3) → vp_in x3 24 ∧ vp_in ((24 * x1) + x3) 192 ∧ vp_in x3 24 ∧ vp_in ((24 * x1) + x3) 192 ∧ wpE (xT 148) ev Q (117, [(0, .ref m), (1, .int x1), (2, .int x2), (3, .int (x3 + 1))], [], Φ (U (U μ 26 (((24 * x1) + x3).toNatClampNeg) (μ 32 x3.toNatClampNeg)) 27 (((24 * x1) + x3).toNatClampNeg) ((U μ 26 (((24 * x1) + x3).toNatClampNeg) (μ 32 x3.toNatClampNeg)) 31 x3.toNatClampNeg))))) : wpE (xT 148) ev Q (117, [(0, .ref m), (1, .int x1), (2, .int x2), (3, .int x3)], [], Φ μ) := by
  refine p_ild rfl rfl ?_
  refine p_ald rfl rfl ?_
  refine pm_getp hΦ rfl (c := 15) rfl (by decide) ?_
  refine p_ild rfl rfl ?_
  obtain ⟨g, h⟩ := h
  refine pm_aldi hΦ (c := 15) (n := 8) rfl (by decide) rfl rfl g rfl ?_
  refine p_icmp rfl (fun c => ?_) (fun c => ?_)
  · have h := h.1 c
    refine p_ald rfl rfl ?_
    refine pm_getp hΦ rfl (c := 24) rfl (by decide) ?_
    refine p_ild rfl rfl ?_
    refine p_ald rfl rfl ?_
    refine pm_getp hΦ rfl (c := 22) rfl (by decide) ?_
    refine p_ild rfl rfl ?_
    obtain ⟨g, h⟩ := h
    refine pm_aldi hΦ (c := 22) (n := 8) rfl (by decide) rfl rfl g rfl ?_
    refine p_ald rfl rfl ?_
    refine p_ald rfl rfl ?_
    refine pm_getp hΦ rfl (c := 32) rfl (by decide) ?_
    refine p_ald rfl rfl ?_
    refine pm_getp hΦ rfl (c := 15) rfl (by decide) ?_
    refine p_ild rfl rfl ?_
    obtain ⟨g, h⟩ := h
    refine pm_aldi hΦ (c := 15) (n := 8) rfl (by decide) rfl rfl g rfl ?_
    refine p_push (v := .int 1) rfl ?_
    refine p_bin rfl ?_
    obtain ⟨g, h⟩ := h
    refine pm_aldi hΦ (c := 32) (n := 24) rfl (by decide) rfl rfl g rfl ?_
    refine p_ald rfl rfl ?_
    refine pm_getp hΦ rfl (c := 17) rfl (by decide) ?_
    refine p_ild rfl rfl ?_
    obtain ⟨g, h⟩ := h
    refine pm_aldi hΦ (c := 17) (n := 8) rfl (by decide) rfl rfl g rfl ?_
    refine p_bin rfl ?_
    refine p_ald rfl rfl ?_
    refine pm_getp hΦ rfl (c := 18) rfl (by decide) ?_
    refine p_ild rfl rfl ?_
    obtain ⟨g, h⟩ := h
    refine pm_aldi hΦ (c := 18) (n := 8) rfl (by decide) rfl rfl g rfl ?_
    refine p_push (v := .int 2) rfl ?_
    refine p_div rfl (by decide) ?_
    refine p_ald rfl rfl ?_
    refine p_ald rfl rfl ?_
    refine pm_getp hΦ rfl (c := 7) rfl (by decide) ?_
    refine p_ild rfl rfl ?_
    obtain ⟨g, h⟩ := h
    refine pm_aldi hΦ (c := 7) (n := 5) rfl (by decide) rfl rfl g rfl ?_
    refine p_push (v := .int 0) rfl ?_
    obtain ⟨r, μ', he, h⟩ := h
    exact p_callV rfl (Nat.le_of_ble_eq_true rfl) rfl rfl (Nat.le_of_ble_eq_true rfl) (ml_kd hΦ) he h
  · have h := h.2 c
    refine p_ald rfl rfl ?_
    refine pm_getp hΦ rfl (c := 26) rfl (by decide) ?_
    refine p_push (v := .int 24) rfl ?_
    refine p_ild rfl rfl ?_
    refine p_bin rfl ?_
    refine p_ild rfl rfl ?_
    refine p_bin rfl ?_
    refine p_ald rfl rfl ?_
    refine pm_getp hΦ rfl (c := 32) rfl (by decide) ?_
    refine p_ild rfl rfl ?_
    obtain ⟨g, h⟩ := h
    refine pm_aldi hΦ (c := 32) (n := 24) rfl (by decide) rfl rfl g rfl ?_
    obtain ⟨g, h⟩ := h
    refine pm_asti hΦ (c := 26) (n := 192) rfl (by decide) rfl rfl g ?_
    refine p_ald rfl rfl ?_
    refine pm_getp hΦ rfl (c := 27) rfl (by decide) ?_
    refine p_push (v := .int 24) rfl ?_
    refine p_ild rfl rfl ?_
    refine p_bin rfl ?_
    refine p_ild rfl rfl ?_
    refine p_bin rfl ?_
    refine p_ald rfl rfl ?_
    refine pm_getp hΦ rfl (c := 31) rfl (by decide) ?_
    refine p_ild rfl rfl ?_
    obtain ⟨g, h⟩ := h
    refine pm_aldi hΦ (c := 31) (n := 24) rfl (by decide) rfl rfl g rfl ?_
    obtain ⟨g, h⟩ := h
    refine pm_asti hΦ (c := 27) (n := 192) rfl (by decide) rfl rfl g ?_
    refine p_iinc (y := x3 + 1) (ls' := [(3, .int (x3 + 1)), (0, .ref m), (1, .int x1), (2, .int x2)]) rfl (by decide) rfl rfl rfl ?_
    refine p_goto rfl ?_
    exact p_loc (ls' := [(0, .ref m), (1, .int x1), (2, .int x2), (3, .int (x3 + 1))]) rfl h
theorem B148_218 {ev : xV} {Q : Option Value → xM → Prop} {m : Nat} {Φ : (Nat → Nat → Int32) → xM} (hΦ : MLaw m Φ) {μ : Nat → Nat → Int32} {x1 x2 x3 s0 s1 s2 s4 s5 : Int32} (h : (∃ r μ', ev 152 [.ref m, .int s2, .int s1, .int s0] (Φ μ) (some (.int r)) (Φ μ') ∧ wpE (xT 148) ev Q (221, [(0, .ref m), (1, .int x1), (2, .int x2), (3, .int x3)], [.int r, .int s4, .int s5, .ref (m + 24)], Φ μ'))) : wpE (xT 148) ev Q (218, [(0, .ref m), (1, .int x1), (2, .int x2), (3, .int x3)], [.int s0, .int s1, .int s2, .ref m, .int s4, .int s5, .ref (m + 24)], Φ μ) := by
  obtain ⟨r, μ', he, h⟩ := h
  exact p_callV rfl (Nat.le_of_ble_eq_true rfl) rfl rfl (Nat.le_of_ble_eq_true rfl) (ml_kd hΦ) he h
theorem B148_221 {ev : xV} {Q : Option Value → xM → Prop} {m : Nat} {Φ : (Nat → Nat → Int32) → xM} (hΦ : MLaw m Φ) {μ : Nat → Nat → Int32} {x1 x2 x3 s0 s1 s2 : Int32} (h : (¬ (μ 0 32) = 0) ∧ vp_in s2 8 ∧ Q (some (.int (μ 0 41))) (Φ (U μ 24 s2.toNatClampNeg ((s1 - s0) / (μ 0 32))))) : wpE (xT 148) ev Q (221, [(0, .ref m), (1, .int x1), (2, .int x2), (3, .int x3)], [.int s0, .int s1, .int s2, .ref (m + 24)], Φ μ) := by
  refine p_bin rfl ?_
  refine p_ald rfl rfl ?_
  refine pm_geti hΦ (v := μ 0 32) rfl rfl ?_
  obtain ⟨g, h⟩ := h
  refine p_div rfl g ?_
  obtain ⟨g, h⟩ := h
  refine pm_asti hΦ (c := 24) (n := 8) rfl (by decide) rfl rfl g ?_
  refine p_ald rfl rfl ?_
  refine pm_geti hΦ (v := μ 0 41) rfl rfl ?_
  exact p_ri rfl trivial h
theorem B149_0 {ev : xV} {Q : Option Value → xM → Prop} {m : Nat} {Φ : (Nat → Nat → Int32) → xM} (hΦ : MLaw m Φ) {μ : Nat → Nat → Int32} {x1 x2 : Int32} (h : (∃ r μ', ev 150 [.ref m, .int x1] (Φ μ) (some (.int r)) (Φ μ') ∧ wpE (xT 149) ev Q (5, [(0, .ref m), (1, .int x1), (2, .int x2)], [.int r], Φ μ'))) : wpE (xT 149) ev Q (0, [(0, .ref m), (1, .int x1), (2, .int x2)], [], Φ μ) := by
  refine p_ald rfl rfl ?_
  refine p_ild rfl rfl ?_
  obtain ⟨r, μ', he, h⟩ := h
  exact p_callV rfl (Nat.le_of_ble_eq_true rfl) rfl rfl (Nat.le_of_ble_eq_true rfl) (ml_kd hΦ) he h
theorem B149_5 {ev : xV} {Q : Option Value → xM → Prop} {m : Nat} {Φ : (Nat → Nat → Int32) → xM} (hΦ : MLaw m Φ) {μ : Nat → Nat → Int32} {x1 x2 s0 : Int32} (h : ((s0 = 0) → Q (some (.int 1)) (Φ μ)) ∧ (¬ (s0 = 0) → vp_in x1 8 ∧ vp_in x2 5 ∧ (((μ 2 x2.toNatClampNeg) ≤ (μ 16 x1.toNatClampNeg)) → Q (some (.int 0)) (Φ μ)) ∧ (¬ ((μ 2 x2.toNatClampNeg) ≤ (μ 16 x1.toNatClampNeg)) → Q (some (.int 1)) (Φ μ)))) : wpE (xT 149) ev Q (5, [(0, .ref m), (1, .int x1), (2, .int x2)], [.int s0], Φ μ) := by
  refine p_if rfl (fun c => ?_) (fun c => ?_)
  · have h := h.1 c
    refine p_loc (ls' := []) rfl ?_
    refine p_push (v := .int 1) rfl ?_
    refine p_goto rfl ?_
    exact p_ri rfl (by decide) h
  · have h := h.2 c
    refine p_ald rfl rfl ?_
    refine pm_getp hΦ rfl (c := 16) rfl (by decide) ?_
    refine p_ild rfl rfl ?_
    obtain ⟨g, h⟩ := h
    refine pm_aldi hΦ (c := 16) (n := 8) rfl (by decide) rfl rfl g rfl ?_
    refine p_ald rfl rfl ?_
    refine pm_getp hΦ rfl (c := 2) rfl (by decide) ?_
    refine p_ild rfl rfl ?_
    obtain ⟨g, h⟩ := h
    refine pm_aldi hΦ (c := 2) (n := 5) rfl (by decide) rfl rfl g rfl ?_
    refine p_icmp rfl (fun c => ?_) (fun c => ?_)
    · have h := h.1 c
      refine p_push (v := .int 0) rfl ?_
      refine p_loc (ls' := []) rfl ?_
      exact p_ri rfl (by decide) h
    · have h := h.2 c
      refine p_loc (ls' := []) rfl ?_
      refine p_push (v := .int 1) rfl ?_
      refine p_goto rfl ?_
      exact p_ri rfl (by decide) h
theorem B150_0 {ev : xV} {Q : Option Value → xM → Prop} {m : Nat} {Φ : (Nat → Nat → Int32) → xM} (hΦ : MLaw m Φ) {μ : Nat → Nat → Int32} {x1 : Int32} (h : vp_in x1 8 ∧ (((μ 11 x1.toNatClampNeg) = 1) → Q (some (.int 1)) (Φ μ)) ∧ (¬ ((μ 11 x1.toNatClampNeg) = 1) → vp_in x1 8 ∧ (((μ 11 x1.toNatClampNeg) = 3) → Q (some (.int 1)) (Φ μ)) ∧ (¬ ((μ 11 x1.toNatClampNeg) = 3) → vp_in x1 8 ∧ (((μ 11 x1.toNatClampNeg) = 5) → Q (some (.int 1)) (Φ μ)) ∧ (¬ ((μ 11 x1.toNatClampNeg) = 5) → Q (some (.int 0)) (Φ μ))))) : wpE (xT 150) ev Q (0, [(0, .ref m), (1, .int x1)], [], Φ μ) := by
  refine p_ald rfl rfl ?_
  refine pm_getp hΦ rfl (c := 11) rfl (by decide) ?_
  refine p_ild rfl rfl ?_
  obtain ⟨g, h⟩ := h
  refine pm_aldi hΦ (c := 11) (n := 8) rfl (by decide) rfl rfl g rfl ?_
  refine p_push (v := .int 1) rfl ?_
  refine p_icmp rfl (fun c => ?_) (fun c => ?_)
  · have h := h.1 c
    refine p_loc (ls' := []) rfl ?_
    refine p_push (v := .int 1) rfl ?_
    refine p_goto rfl ?_
    exact p_ri rfl (by decide) h
  · have h := h.2 c
    refine p_ald rfl rfl ?_
    refine pm_getp hΦ rfl (c := 11) rfl (by decide) ?_
    refine p_ild rfl rfl ?_
    obtain ⟨g, h⟩ := h
    refine pm_aldi hΦ (c := 11) (n := 8) rfl (by decide) rfl rfl g rfl ?_
    refine p_push (v := .int 3) rfl ?_
    refine p_icmp rfl (fun c => ?_) (fun c => ?_)
    · have h := h.1 c
      refine p_loc (ls' := []) rfl ?_
      refine p_push (v := .int 1) rfl ?_
      refine p_goto rfl ?_
      exact p_ri rfl (by decide) h
    · have h := h.2 c
      refine p_ald rfl rfl ?_
      refine pm_getp hΦ rfl (c := 11) rfl (by decide) ?_
      refine p_ild rfl rfl ?_
      obtain ⟨g, h⟩ := h
      refine pm_aldi hΦ (c := 11) (n := 8) rfl (by decide) rfl rfl g rfl ?_
      refine p_push (v := .int 5) rfl ?_
      refine p_icmp rfl (fun c => ?_) (fun c => ?_)
      · have h := h.1 c
        refine p_loc (ls' := []) rfl ?_
        refine p_push (v := .int 1) rfl ?_
        refine p_goto rfl ?_
        exact p_ri rfl (by decide) h
      · have h := h.2 c
        refine p_push (v := .int 0) rfl ?_
        refine p_loc (ls' := []) rfl ?_
        exact p_ri rfl (by decide) h
