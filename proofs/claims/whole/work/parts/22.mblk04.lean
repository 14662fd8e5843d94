theorem B173_0 {ev : xV} {Q : Option Value → xM → Prop} {m : Nat} {Φ : (Nat → Nat → Int32) → xM} (hΦ : MLaw m Φ) {μ : Nat → Nat → Int32} {x1 : Int32} (h : ((x1 < 97) → Q (some (.int 0)) (Φ μ)) ∧ (¬ (x1 < 97) → ((122 < x1) → Q (some (.int 0)) (Φ μ)) ∧ (¬ (122 < x1) → Q (some (.int 1)) (Φ μ)))) : wpE (xT 173) ev Q (0, [(0, .ref m), (1, .int x1)], [], Φ μ) := by
  refine p_ild rfl rfl ?_
  refine p_push (v := .int 97) rfl ?_
  refine p_icmp rfl (fun c => ?_) (fun c => ?_)
  · have h := h.1 c
    refine p_loc (ls' := []) rfl ?_
    refine p_push (v := .int 0) rfl ?_
    exact p_ri rfl (by decide) h
  · have h := h.2 c
    refine p_ild rfl rfl ?_
    refine p_push (v := .int 122) rfl ?_
    refine p_icmp rfl (fun c => ?_) (fun c => ?_)
    · have h := h.1 c
      refine p_loc (ls' := []) rfl ?_
      refine p_push (v := .int 0) rfl ?_
      exact p_ri rfl (by decide) h
    · have h := h.2 c
      refine p_push (v := .int 1) rfl ?_
      refine p_goto rfl ?_
      refine p_loc (ls' := []) rfl ?_
      exact p_ri rfl (by decide) h
theorem B174_0 {ev : xV} {Q : Option Value → xM → Prop} {m : Nat} {Φ : (Nat → Nat → Int32) → xM} (hΦ : MLaw m Φ) {μ : Nat → Nat → Int32} (h : (((μ 0 1) ≤ (μ 0 46)) → (∃ r μ', ev 175 [.ref m, .long 707748] (Φ (U μ 0 47 2)) (some (.int r)) (Φ μ') ∧ wpE (xT 174) ev Q (53, [(0, .ref m)], [.int r, .ref m], Φ μ'))) ∧ (¬ ((μ 0 1) ≤ (μ 0 46)) → vp_in (μ 0 46) 160 ∧ (∃ r μ', ev 173 [.ref m, .int (μ 1 (μ 0 46).toNatClampNeg)] (Φ μ) (some (.int r)) (Φ μ') ∧ wpE (xT 174) ev Q (24, [(0, .ref m)], [.int r], Φ μ')))) : wpE (xT 174) ev Q (0, [(0, .ref m)], [], Φ μ) := by
  refine p_ald rfl rfl ?_
  refine pm_geti hΦ (v := μ 0 46) rfl rfl ?_
  refine p_ald rfl rfl ?_
  refine pm_geti hΦ (v := μ 0 1) rfl rfl ?_
  refine p_icmp rfl (fun c => ?_) (fun c => ?_)
  · have h := h.1 c
    refine p_ald rfl rfl ?_
    refine p_push (v := .int 2) rfl ?_
    refine pm_puti hΦ rfl ?_
    refine p_ald rfl rfl ?_
    refine p_ald rfl rfl ?_
    refine p_push (v := .long 707748) rfl ?_
    obtain ⟨r, μ', he, h⟩ := h
    exact p_callV rfl (Nat.le_of_ble_eq_true rfl) rfl rfl (Nat.le_of_ble_eq_true rfl) (ml_kd hΦ) he h
  · have h := h.2 c
    refine p_ald rfl rfl ?_
    refine p_ald rfl rfl ?_
    refine pm_getp hΦ rfl (c := 1) rfl (by decide) ?_
    refine p_ald rfl rfl ?_
    refine pm_geti hΦ (v := μ 0 46) rfl rfl ?_
    obtain ⟨g, h⟩ := h
    refine pm_aldi hΦ (c := 1) (n := 160) rfl (by decide) rfl rfl g rfl ?_
    obtain ⟨r, μ', he, h⟩ := h
    exact p_callV rfl (Nat.le_of_ble_eq_true rfl) rfl rfl (Nat.le_of_ble_eq_true rfl) (ml_kd hΦ) he h
theorem B174_24 {ev : xV} {Q : Option Value → xM → Prop} {m : Nat} {Φ : (Nat → Nat → Int32) → xM} (hΦ : MLaw m Φ) {μ : Nat → Nat → Int32} {s0 : Int32} (h : ((s0 = 0) → (∃ r μ', ev 175 [.ref m, .long 707748] (Φ (U μ 0 47 2)) (some (.int r)) (Φ μ') ∧ wpE (xT 174) ev Q (53, [(0, .ref m)], [.int r, .ref m], Φ μ'))) ∧ (¬ (s0 = 0) → wpE (xT 174) ev Q (0, [(0, .ref m)], [], Φ (U μ 0 46 ((μ 0 46) + 1))))) : wpE (xT 174) ev Q (24, [(0, .ref m)], [.int s0], Φ μ) := by
  refine p_if rfl (fun c => ?_) (fun c => ?_)
  · have h := h.1 c
    refine p_ald rfl rfl ?_
    refine p_push (v := .int 2) rfl ?_
    refine pm_puti hΦ rfl ?_
    refine p_ald rfl rfl ?_
    refine p_ald rfl rfl ?_
    refine p_push (v := .long 707748) rfl ?_
    obtain ⟨r, μ', he, h⟩ := h
    exact p_callV rfl (Nat.le_of_ble_eq_true rfl) rfl rfl (Nat.le_of_ble_eq_true rfl) (ml_kd hΦ) he h
  · have h := h.2 c
    refine p_ald rfl rfl ?_
    refine p_dup rfl rfl ?_
    refine pm_geti hΦ (v := μ 0 46) rfl rfl ?_
    refine p_push (v := .int 1) rfl ?_
    refine p_bin rfl ?_
    refine pm_puti hΦ rfl ?_
    refine p_goto rfl ?_
    exact h
theorem B174_53 {ev : xV} {Q : Option Value → xM → Prop} {m : Nat} {Φ : (Nat → Nat → Int32) → xM} (hΦ : MLaw m Φ) {μ : Nat → Nat → Int32} {s0 : Int32} (h : ((s0 = 0) → (∃ r μ', ev 175 [.ref m, .long 549619347] (Φ μ) (some (.int r)) (Φ μ') ∧ wpE (xT 174) ev Q (67, [(0, .ref m)], [.int r, .ref m], Φ μ'))) ∧ (¬ (s0 = 0) → wpE (xT 174) ev Q (131, [(0, .ref m)], [.int 0, .ref m], Φ μ))) : wpE (xT 174) ev Q (53, [(0, .ref m)], [.int s0, .ref m], Φ μ) := by
  refine p_if rfl (fun c => ?_) (fun c => ?_)
  · have h := h.1 c
    refine p_ald rfl rfl ?_
    refine p_push (v := .long 549619347) rfl ?_
    obtain ⟨r, μ', he, h⟩ := h
    exact p_callV rfl (Nat.le_of_ble_eq_true rfl) rfl rfl (Nat.le_of_ble_eq_true rfl) (ml_kd hΦ) he h
  · have h := h.2 c
    refine p_push (v := .int 0) rfl ?_
    refine p_goto rfl ?_
    exact h
theorem B174_67 {ev : xV} {Q : Option Value → xM → Prop} {m : Nat} {Φ : (Nat → Nat → Int32) → xM} (hΦ : MLaw m Φ) {μ : Nat → Nat → Int32} {s0 : Int32} (h : ((s0 = 0) → (∃ r μ', ev 175 [.ref m, .long 8496] (Φ μ) (some (.int r)) (Φ μ') ∧ wpE (xT 174) ev Q (81, [(0, .ref m)], [.int r, .ref m], Φ μ'))) ∧ (¬ (s0 = 0) → wpE (xT 174) ev Q (131, [(0, .ref m)], [.int 1, .ref m], Φ μ))) : wpE (xT 174) ev Q (67, [(0, .ref m)], [.int s0, .ref m], Φ μ) := by
  refine p_if rfl (fun c => ?_) (fun c => ?_)
  · have h := h.1 c
    refine p_ald rfl rfl ?_
    refine p_push (v := .long 8496) rfl ?_
    obtain ⟨r, μ', he, h⟩ := h
    exact p_callV rfl (Nat.le_of_ble_eq_true rfl) rfl rfl (Nat.le_of_ble_eq_true rfl) (ml_kd hΦ) he h
  · have h := h.2 c
    refine p_push (v := .int 1) rfl ?_
    refine p_goto rfl ?_
    exact h
theorem B174_81 {ev : xV} {Q : Option Value → xM → Prop} {m : Nat} {Φ : (Nat → Nat → Int32) → xM} (hΦ : MLaw m Φ) {μ : Nat → Nat → Int32} {s0 : Int32} (h : ((s0 = 0) → (∃ r μ', ev 175 [.ref m, .long 24159860] (Φ μ) (some (.int r)) (Φ μ') ∧ wpE (xT 174) ev Q (95, [(0, .ref m)], [.int r, .ref m], Φ μ'))) ∧ (¬ (s0 = 0) → wpE (xT 174) ev Q (131, [(0, .ref m)], [.int 2, .ref m], Φ μ))) : wpE (xT 174) ev Q (81, [(0, .ref m)], [.int s0, .ref m], Φ μ) := by
  refine p_if rfl (fun c => ?_) (fun c => ?_)
  · have h := h.1 c
    refine p_ald rfl rfl ?_
    refine p_push (v := .long 24159860) rfl ?_
    obtain ⟨r, μ', he, h⟩ := h
    exact p_callV rfl (Nat.le_of_ble_eq_true rfl) rfl rfl (Nat.le_of_ble_eq_true rfl) (ml_kd hΦ) he h
  · have h := h.2 c
    refine p_push (v := .int 2) rfl ?_
    refine p_goto rfl ?_
    exact h
theorem B174_95 {ev : xV} {Q : Option Value → xM → Prop} {m : Nat} {Φ : (Nat → Nat → Int32) → xM} (hΦ : MLaw m Φ) {μ : Nat → Nat → Int32} {s0 : Int32} (h : ((s0 = 0) → (∃ r μ', ev 175 [.ref m, .long 20201198] (Φ μ) (some (.int r)) (Φ μ') ∧ wpE (xT 174) ev Q (109, [(0, .ref m)], [.int r, .ref m], Φ μ'))) ∧ (¬ (s0 = 0) → wpE (xT 174) ev Q (131, [(0, .ref m)], [.int 3, .ref m], Φ μ))) : wpE (xT 174) ev Q (95, [(0, .ref m)], [.int s0, .ref m], Φ μ) := by
  refine p_if rfl (fun c => ?_) (fun c => ?_)
  · have h := h.1 c
    refine p_ald rfl rfl ?_
    refine p_push (v := .long 20201198) rfl ?_
    obtain ⟨r, μ', he, h⟩ := h
    exact p_callV rfl (Nat.le_of_ble_eq_true rfl) rfl rfl (Nat.le_of_ble_eq_true rfl) (ml_kd hΦ) he h
  · have h := h.2 c
    refine p_push (v := .int 3) rfl ?_
    refine p_goto rfl ?_
    exact h
theorem B174_109 {ev : xV} {Q : Option Value → xM → Prop} {m : Nat} {Φ : (Nat → Nat → Int32) → xM} (hΦ : MLaw m Φ) {μ : Nat → Nat → Int32} {s0 : Int32} (h : ((s0 = 0) → (∃ r μ', ev 175 [.ref m, .long 20604293] (Φ μ) (some (.int r)) (Φ μ') ∧ wpE (xT 174) ev Q (123, [(0, .ref m)], [.int r, .ref m], Φ μ'))) ∧ (¬ (s0 = 0) → wpE (xT 174) ev Q (131, [(0, .ref m)], [.int 4, .ref m], Φ μ))) : wpE (xT 174) ev Q (109, [(0, .ref m)], [.int s0, .ref m], Φ μ) := by
  refine p_if rfl (fun c => ?_) (fun c => ?_)
  · have h := h.1 c
    refine p_ald rfl rfl ?_
    refine p_push (v := .long 20604293) rfl ?_
    obtain ⟨r, μ', he, h⟩ := h
    exact p_callV rfl (Nat.le_of_ble_eq_true rfl) rfl rfl (Nat.le_of_ble_eq_true rfl) (ml_kd hΦ) he h
  · have h := h.2 c
    refine p_push (v := .int 4) rfl ?_
    refine p_goto rfl ?_
    exact h
theorem B174_123 {ev : xV} {Q : Option Value → xM → Prop} {m : Nat} {Φ : (Nat → Nat → Int32) → xM} (hΦ : MLaw m Φ) {μ : Nat → Nat → Int32} {s0 : Int32} (h : ((s0 = 0) → wpE (xT 174) ev Q (131, [(0, .ref m)], [.int ((-1)), .ref m], Φ μ)) ∧ (¬ (s0 = 0) → wpE (xT 174) ev Q (131, [(0, .ref m)], [.int 5, .ref m], Φ μ))) : wpE (xT 174) ev Q (123, [(0, .ref m)], [.int s0, .ref m], Φ μ) := by
  refine p_if rfl (fun c => ?_) (fun c => ?_)
  · have h := h.1 c
    refine p_push (v := .int (-1)) rfl ?_
    exact h
  · have h := h.2 c
    refine p_push (v := .int 5) rfl ?_
    refine p_goto rfl ?_
    exact h
theorem B174_131 {ev : xV} {Q : Option Value → xM → Prop} {m : Nat} {Φ : (Nat → Nat → Int32) → xM} (hΦ : MLaw m Φ) {μ : Nat → Nat → Int32} {s0 : Int32} (h : ((s0 < 0) → (∃ r μ', ev 175 [.ref m, .long 17376357] (Φ (U (U μ 0 48 s0) 0 47 3)) (some (.int r)) (Φ μ') ∧ wpE (xT 174) ev Q (155, [(0, .ref m)], [.int r, .ref m], Φ μ'))) ∧ (¬ (s0 < 0) → Q none (Φ (U μ 0 48 s0)))) : wpE (xT 174) ev Q (131, [(0, .ref m)], [.int s0, .ref m], Φ μ) := by
  refine pm_puti hΦ rfl ?_
  refine p_ald rfl rfl ?_
  refine pm_geti hΦ (v := s0) rfl rfl ?_
  refine p_if rfl (fun c => ?_) (fun c => ?_)
  · have h := h.1 c
    refine p_ald rfl rfl ?_
    refine p_push (v := .int 3) rfl ?_
    refine pm_puti hΦ rfl ?_
    refine p_ald rfl rfl ?_
    refine p_ald rfl rfl ?_
    refine p_push (v := .long 17376357) rfl ?_
    obtain ⟨r, μ', he, h⟩ := h
    exact p_callV rfl (Nat.le_of_ble_eq_true rfl) rfl rfl (Nat.le_of_ble_eq_true rfl) (ml_kd hΦ) he h
  · have h := h.2 c
    exact p_rv rfl h
theorem B174_155 {ev : xV} {Q : Option Value → xM → Prop} {m : Nat} {Φ : (Nat → Nat → Int32) → xM} (hΦ : MLaw m Φ) {μ : Nat → Nat → Int32} {s0 : Int32} (h : ((s0 = 0) → (∃ r μ', ev 175 [.ref m, .long 6452] (Φ μ) (some (.int r)) (Φ μ') ∧ wpE (xT 174) ev Q (169, [(0, .ref m)], [.int r, .ref m], Φ μ'))) ∧ (¬ (s0 = 0) → wpE (xT 174) ev Q (219, [(0, .ref m)], [.int 0, .ref m], Φ μ))) : wpE (xT 174) ev Q (155, [(0, .ref m)], [.int s0, .ref m], Φ μ) := by
  refine p_if rfl (fun c => ?_) (fun c => ?_)
  · have h := h.1 c
    refine p_ald rfl rfl ?_
    refine p_push (v := .long 6452) rfl ?_
    obtain ⟨r, μ', he, h⟩ := h
    exact p_callV rfl (Nat.le_of_ble_eq_true rfl) rfl rfl (Nat.le_of_ble_eq_true rfl) (ml_kd hΦ) he h
  · have h := h.2 c
    refine p_push (v := .int 0) rfl ?_
    refine p_goto rfl ?_
    exact h
theorem B174_169 {ev : xV} {Q : Option Value → xM → Prop} {m : Nat} {Φ : (Nat → Nat → Int32) → xM} (hΦ : MLaw m Φ) {μ : Nat → Nat → Int32} {s0 : Int32} (h : ((s0 = 0) → (∃ r μ', ev 175 [.ref m, .long 498] (Φ μ) (some (.int r)) (Φ μ') ∧ wpE (xT 174) ev Q (183, [(0, .ref m)], [.int r, .ref m], Φ μ'))) ∧ (¬ (s0 = 0) → wpE (xT 174) ev Q (219, [(0, .ref m)], [.int 1, .ref m], Φ μ))) : wpE (xT 174) ev Q (169, [(0, .ref m)], [.int s0, .ref m], Φ μ) := by
  refine p_if rfl (fun c => ?_) (fun c => ?_)
  · have h := h.1 c
    refine p_ald rfl rfl ?_
    refine p_push (v := .long 498) rfl ?_
    obtain ⟨r, μ', he, h⟩ := h
    exact p_callV rfl (Nat.le_of_ble_eq_true rfl) rfl rfl (Nat.le_of_ble_eq_true rfl) (ml_kd hΦ) he h
  · have h := h.2 c
    refine p_push (v := .int 1) rfl ?_
    refine p_goto rfl ?_
    exact h
theorem B174_183 {ev : xV} {Q : Option Value → xM → Prop} {m : Nat} {Φ : (Nat → Nat → Int32) → xM} (hΦ : MLaw m Φ) {μ : Nat → Nat → Int32} {s0 : Int32} (h : ((s0 = 0) → (∃ r μ', ev 175 [.ref m, .long 1476] (Φ μ) (some (.int r)) (Φ μ') ∧ wpE (xT 174) ev Q (197, [(0, .ref m)], [.int r, .ref m], Φ μ'))) ∧ (¬ (s0 = 0) → wpE (xT 174) ev Q (219, [(0, .ref m)], [.int 2, .ref m], Φ μ))) : wpE (xT 174) ev Q (183, [(0, .ref m)], [.int s0, .ref m], Φ μ) := by
  refine p_if rfl (fun c => ?_) (fun c => ?_)
  · have h := h.1 c
    refine p_ald rfl rfl ?_
    refine p_push (v := .long 1476) rfl ?_
    obtain ⟨r, μ', he, h⟩ := h
    exact p_callV rfl (Nat.le_of_ble_eq_true rfl) rfl rfl (Nat.le_of_ble_eq_true rfl) (ml_kd hΦ) he h
  · have h := h.2 c
    refine p_push (v := .int 2) rfl ?_
    refine p_goto rfl ?_
    exact h
theorem B174_197 {ev : xV} {Q : Option Value → xM → Prop} {m : Nat} {Φ : (Nat → Nat → Int32) → xM} (hΦ : MLaw m Φ) {μ : Nat → Nat → Int32} {s0 : Int32} (h : ((s0 = 0) → (∃ r μ', ev 175 [.ref m, .long 14836] (Φ μ) (some (.int r)) (Φ μ') ∧ wpE (xT 174) ev Q (211, [(0, .ref m)], [.int r, .ref m], Φ μ'))) ∧ (¬ (s0 = 0) → wpE (xT 174) ev Q (219, [(0, .ref m)], [.int 3, .ref m], Φ μ))) : wpE (xT 174) ev Q (197, [(0, .ref m)], [.int s0, .ref m], Φ μ) := by
  refine p_if rfl (fun c => ?_) (fun c => ?_)
  · have h := h.1 c
    refine p_ald rfl rfl ?_
    refine p_push (v := .long 14836) rfl ?_
    obtain ⟨r, μ', he, h⟩ := h
    exact p_callV rfl (Nat.le_of_ble_eq_true rfl) rfl rfl (Nat.le_of_ble_eq_true rfl) (ml_kd hΦ) he h
  · have h := h.2 c
    refine p_push (v := .int 3) rfl ?_
    refine p_goto rfl ?_
    exact h
theorem B174_211 {ev : xV} {Q : Option Value → xM → Prop} {m : Nat} {Φ : (Nat → Nat → Int32) → xM} (hΦ : MLaw m Φ) {μ : Nat → Nat → Int32} {s0 : Int32} (h : ((s0 = 0) → wpE (xT 174) ev Q (219, [(0, .ref m)], [.int ((-1)), .ref m], Φ μ)) ∧ (¬ (s0 = 0) → wpE (xT 174) ev Q (219, [(0, .ref m)], [.int 4, .ref m], Φ μ))) : wpE (xT 174) ev Q (211, [(0, .ref m)], [.int s0, .ref m], Φ μ) := by
  refine p_if rfl (fun c => ?_) (fun c => ?_)
  · have h := h.1 c
    refine p_push (v := .int (-1)) rfl ?_
    exact h
  · have h := h.2 c
    refine p_push (v := .int 4) rfl ?_
    refine p_goto rfl ?_
    exact h
theorem B174_219 {ev : xV} {Q : Option Value → xM → Prop} {m : Nat} {Φ : (Nat → Nat → Int32) → xM} (hΦ : MLaw m Φ) {μ : Nat → Nat → Int32} {s0 : Int32} (h : ((0 ≤ s0) → Q none (Φ (U μ 0 48 s0))) ∧ (¬ (0 ≤ s0) → Q none (Φ (U (U μ 0 48 s0) 0 47 5)))) : wpE (xT 174) ev Q (219, [(0, .ref m)], [.int s0, .ref m], Φ μ) := by
  refine pm_puti hΦ rfl ?_
  refine p_ald rfl rfl ?_
  refine pm_geti hΦ (v := s0) rfl rfl ?_
  refine p_if rfl (fun c => ?_) (fun c => ?_)
  · have h := h.1 c
    refine p_loc (ls' := []) rfl ?_
    exact p_rv rfl h
  · have h := h.2 c
    refine p_ald rfl rfl ?_
    refine p_push (v := .int 5) rfl ?_
    refine pm_puti hΦ rfl ?_
    refine p_loc (ls' := []) rfl ?_
    exact p_rv rfl h
theorem B175_0 {ev : xV} {Q : Option Value → xM → Prop} {m : Nat} {Φ : (Nat → Nat → Int32) → xM} (hΦ : MLaw m Φ) {μ : Nat → Nat → Int32} {w1 : Int64} (h : wpE (xT 175) ev Q (10, [(0, .ref m), (3, .long w1), (5, .int ((μ 0 46) - 1))], [], Φ μ)) : wpE (xT 175) ev Q (0, [(0, .ref m), (1, .long w1)], [], Φ μ) := by
  refine p_lld rfl rfl ?_
  refine p_lst (ls' := [(3, .long w1), (0, .ref m), (1, .long w1)]) rfl (by decide) rfl ?_
  refine p_ald rfl rfl ?_
  refine pm_geti hΦ (v := μ 0 46) rfl rfl ?_
  refine p_push (v := .int 1) rfl ?_
  refine p_bin rfl ?_
  refine p_ist (ls' := [(5, .int ((μ 0 46) - 1)), (3, .long w1), (0, .ref m), (1, .long w1)]) rfl (by decide) rfl ?_
  exact p_loc (ls' := [(0, .ref m), (3, .long w1), (5, .int ((μ 0 46) - 1))]) rfl h
theorem B175_10 {ev : xV} {Q : Option Value → xM → Prop} {m : Nat} {Φ : (Nat → Nat → Int32) → xM} (hΦ : MLaw m Φ) {μ : Nat → Nat → Int32} {x5 : Int32} {w3 : Int64} (h : ((x5 < (μ 0 49)) → wpE (xT 175) ev Q (55, [(0, .ref m), (3, .long w3), (5, .int x5)], [], Φ μ)) ∧ (¬ (x5 < (μ 0 49)) → (((lg_cmp w3 0) ≤ 0) → wpE (xT 175) ev Q (55, [(0, .ref m), (3, .long w3), (5, .int x5)], [], Φ μ)) ∧ (¬ ((lg_cmp w3 0) ≤ 0) → vp_in x5 160 ∧ (((lg_cmp (w3 &&& 31) (((μ 1 x5.toNatClampNeg) - 96).toInt64)) = 0) → wpE (xT 175) ev Q (10, [(0, .ref m), (3, .long (w3 >>> (5.toInt64 &&& 63))), (5, .int (x5 + (-1)))], [], Φ μ)) ∧ (¬ ((lg_cmp (w3 &&& 31) (((μ 1 x5.toNatClampNeg) - 96).toInt64)) = 0) → wpE (xT 175) ev Q (55, [(0, .ref m), (3, .long w3), (5, .int x5)], [], Φ μ))))) : wpE (xT 175) ev Q (10, [(0, .ref m), (3, .long w3), (5, .int x5)], [], Φ μ) := by
  refine p_ild rfl rfl ?_
  refine p_ald rfl rfl ?_
  refine pm_geti hΦ (v := μ 0 49) rfl rfl ?_
  refine p_icmp rfl (fun c => ?_) (fun c => ?_)
  · have h := h.1 c
    exact h
  · have h := h.2 c
    refine p_lld rfl rfl ?_
    refine p_push (v := .long 0) rfl ?_
    refine p_lcmp rfl ?_
    refine p_if rfl (fun c => ?_) (fun c => ?_)
    · have h := h.1 c
      exact h
    · have h := h.2 c
      refine p_lld rfl rfl ?_
      refine p_push (v := .long 31) rfl ?_
      refine p_binL rfl ?_
      refine p_ald rfl rfl ?_
      refine pm_getp hΦ rfl (c := 1) rfl (by decide) ?_
      refine p_ild rfl rfl ?_
      obtain ⟨g, h⟩ := h
      refine pm_aldi hΦ (c := 1) (n := 160) rfl (by decide) rfl rfl g rfl ?_
      refine p_push (v := .int 96) rfl ?_
      refine p_bin rfl ?_
      refine p_i2l rfl ?_
      refine p_lcmp rfl ?_
      refine p_if rfl (fun c => ?_) (fun c => ?_)
      · have h := h.1 c
        refine p_lld rfl rfl ?_
        refine p_push (v := .int 5) rfl ?_
        refine p_shL rfl ?_
        refine p_lst (ls' := [(3, .long (w3 >>> (5.toInt64 &&& 63))), (0, .ref m), (5, .int x5)]) rfl (by decide) rfl ?_
        refine p_iinc (y := x5 + (-1)) (ls' := [(5, .int (x5 + (-1))), (3, .long (w3 >>> (5.toInt64 &&& 63))), (0, .ref m)]) rfl (by decide) rfl rfl rfl ?_
        refine p_goto rfl ?_
        exact p_loc (ls' := [(0, .ref m), (3, .long (w3 >>> (5.toInt64 &&& 63))), (5, .int (x5 + (-1)))]) rfl h
      · have h := h.2 c
        exact h
theorem B175_55 {ev : xV} {Q : Option Value → xM → Prop} {m : Nat} {Φ : (Nat → Nat → Int32) → xM} (hΦ : MLaw m Φ) {μ : Nat → Nat → Int32} {x5 : Int32} {w3 : Int64} (h : (((lg_cmp w3 0) = 0) → ((x5 = ((μ 0 49) - 1)) → Q (some (.int 1)) (Φ μ)) ∧ (¬ (x5 = ((μ 0 49) - 1)) → Q (some (.int 0)) (Φ μ))) ∧ (¬ ((lg_cmp w3 0) = 0) → Q (some (.int 0)) (Φ μ))) : wpE (xT 175) ev Q (55, [(0, .ref m), (3, .long w3), (5, .int x5)], [], Φ μ) := by
  refine p_lld rfl rfl ?_
  refine p_push (v := .long 0) rfl ?_
  refine p_lcmp rfl ?_
  refine p_if rfl (fun c => ?_) (fun c => ?_)
  · have h := h.1 c
    refine p_ild rfl rfl ?_
    refine p_ald rfl rfl ?_
    refine pm_geti hΦ (v := μ 0 49) rfl rfl ?_
    refine p_push (v := .int 1) rfl ?_
    refine p_bin rfl ?_
    refine p_icmp rfl (fun c => ?_) (fun c => ?_)
    · have h := h.1 c
      refine p_push (v := .int 1) rfl ?_
      refine p_goto rfl ?_
      refine p_loc (ls' := []) rfl ?_
      exact p_ri rfl (by decide) h
    · have h := h.2 c
      refine p_loc (ls' := []) rfl ?_
      refine p_push (v := .int 0) rfl ?_
      exact p_ri rfl (by decide) h
  · have h := h.2 c
    refine p_loc (ls' := []) rfl ?_
    refine p_push (v := .int 0) rfl ?_
    exact p_ri rfl (by decide) h
theorem B176_0 {ev : xV} {Q : Option Value → xM → Prop} {m : Nat} {Φ : (Nat → Nat → Int32) → xM} (hΦ : MLaw m Φ) {μ : Nat → Nat → Int32} {x1 : Int32} (h : ((x1 < 48) → Q (some (.int 0)) (Φ μ)) ∧ (¬ (x1 < 48) → ((57 < x1) → Q (some (.int 0)) (Φ μ)) ∧ (¬ (57 < x1) → Q (some (.int 1)) (Φ μ)))) : wpE (xT 176) ev Q (0, [(0, .ref m), (1, .int x1)], [], Φ μ) := by
  refine p_ild rfl rfl ?_
  refine p_push (v := .int 48) rfl ?_
  refine p_icmp rfl (fun c => ?_) (fun c => ?_)
  · have h := h.1 c
    refine p_loc (ls' := []) rfl ?_
    refine p_push (v := .int 0) rfl ?_
    exact p_ri rfl (by decide) h
  · have h := h.2 c
    refine p_ild rfl rfl ?_
    refine p_push (v := .int 57) rfl ?_
    refine p_icmp rfl (fun c => ?_) (fun c => ?_)
    · have h := h.1 c
      refine p_loc (ls' := []) rfl ?_
      refine p_push (v := .int 0) rfl ?_
      exact p_ri rfl (by decide) h
    · have h := h.2 c
      refine p_push (v := .int 1) rfl ?_
      refine p_goto rfl ?_
      refine p_loc (ls' := []) rfl ?_
      exact p_ri rfl (by decide) h
theorem B177_0 {ev : xV} {Q : Option Value → xM → Prop} {m : Nat} {Φ : (Nat → Nat → Int32) → xM} (hΦ : MLaw m Φ) {μ : Nat → Nat → Int32} {x1 : Int32} (h : (((μ 0 47) = 3) → (((μ 0 48) = x1) → Q (some (.int 1)) (Φ μ)) ∧ (¬ ((μ 0 48) = x1) → Q (some (.int 0)) (Φ μ))) ∧ (¬ ((μ 0 47) = 3) → Q (some (.int 0)) (Φ μ))) : wpE (xT 177) ev Q (0, [(0, .ref m), (1, .int x1)], [], Φ μ) := by
  refine p_ald rfl rfl ?_
  refine pm_geti hΦ (v := μ 0 47) rfl rfl ?_
  refine p_push (v := .int 3) rfl ?_
  refine p_icmp rfl (fun c => ?_) (fun c => ?_)
  · have h := h.1 c
    refine p_ald rfl rfl ?_
    refine pm_geti hΦ (v := μ 0 48) rfl rfl ?_
    refine p_ild rfl rfl ?_
    refine p_icmp rfl (fun c => ?_) (fun c => ?_)
    · have h := h.1 c
      refine p_push (v := .int 1) rfl ?_
      refine p_goto rfl ?_
      refine p_loc (ls' := []) rfl ?_
      exact p_ri rfl (by decide) h
    · have h := h.2 c
      refine p_loc (ls' := []) rfl ?_
      refine p_push (v := .int 0) rfl ?_
      exact p_ri rfl (by decide) h
  · have h := h.2 c
    refine p_loc (ls' := []) rfl ?_
    refine p_push (v := .int 0) rfl ?_
    exact p_ri rfl (by decide) h
theorem B178_0 {ev : xV} {Q : Option Value → xM → Prop} {m : Nat} {Φ : (Nat → Nat → Int32) → xM} (hΦ : MLaw m Φ) {μ : Nat → Nat → Int32} (h : vp_in (μ 0 55) 12 ∧ wpE (xT 178) ev Q (36, [(0, .ref m), (1, .int 1), (2, .int 1)], [], Φ (U (U (U (U (U μ 0 52 0) 0 53 0) 0 54 0) 33 ((μ 0 55).toNatClampNeg) 0) 36 0.toNatClampNeg (vp_nar .boolean 0)))) : wpE (xT 178) ev Q (0, [(0, .ref m)], [], Φ μ) := by
  refine p_ald rfl rfl ?_
  refine p_push (v := .int 0) rfl ?_
  refine pm_puti hΦ rfl ?_
  refine p_ald rfl rfl ?_
  refine p_push (v := .int 0) rfl ?_
  refine pm_puti hΦ rfl ?_
  refine p_ald rfl rfl ?_
  refine p_push (v := .int 0) rfl ?_
  refine pm_puti hΦ rfl ?_
  refine p_ald rfl rfl ?_
  refine pm_getp hΦ rfl (c := 33) rfl (by decide) ?_
  refine p_ald rfl rfl ?_
  refine pm_geti hΦ (v := μ 0 55) rfl rfl ?_
  refine p_push (v := .int 0) rfl ?_
  obtain ⟨g, h⟩ := h
  refine pm_asti hΦ (c := 33) (n := 12) rfl (by decide) rfl rfl g ?_
  refine p_ald rfl rfl ?_
  refine pm_getp hΦ rfl (c := 36) rfl (by decide) ?_
  refine p_push (v := .int 0) rfl ?_
  refine p_push (v := .int 0) rfl ?_
  refine pm_asti hΦ (c := 36) (n := 7) rfl (by decide) rfl rfl (by unfold vp_in; decide) ?_
  refine p_push (v := .int 1) rfl ?_
  refine p_ist (ls' := [(1, .int 1), (0, .ref m)]) rfl (by decide) rfl ?_
  refine p_push (v := .int 1) rfl ?_
  refine p_ist (ls' := [(2, .int 1), (1, .int 1), (0, .ref m)]) rfl (by decide) rfl ?_
  exact p_loc (ls' := [(0, .ref m), (1, .int 1), (2, .int 1)]) rfl h
theorem B178_36 {ev : xV} {Q : Option Value → xM → Prop} {m : Nat} {Φ : (Nat → Nat → Int32) → xM} (hΦ : MLaw m Φ) {μ : Nat → Nat → Int32} {x1 x2 : Int32} (h : ((x1 = 0) → (∃ r μ', ev 180 [.ref m, .int 59] (Φ μ) (some (.int r)) (Φ μ') ∧ wpE (xT 178) ev Q (175, [(0, .ref m), (1, .int x1), (2, .int x2)], [.int r], Φ μ'))) ∧ (¬ (x1 = 0) → (∃ r μ', ev 179 [.ref m, .int x2] (Φ μ) (some (.int r)) (Φ μ') ∧ wpE (xT 178) ev Q (45, [(0, .ref m), (1, .int x1), (2, .int x2)], [.int r], Φ μ')))) : wpE (xT 178) ev Q (36, [(0, .ref m), (1, .int x1), (2, .int x2)], [], Φ μ) := by
  refine p_ild rfl rfl ?_
  refine p_if rfl (fun c => ?_) (fun c => ?_)
  · have h := h.1 c
    refine p_ald rfl rfl ?_
    refine p_push (v := .int 59) rfl ?_
    obtain ⟨r, μ', he, h⟩ := h
    exact p_callV rfl (Nat.le_of_ble_eq_true rfl) rfl rfl (Nat.le_of_ble_eq_true rfl) (ml_kd hΦ) he h
  · have h := h.2 c
    refine p_ald rfl rfl ?_
    refine p_ild rfl rfl ?_
    obtain ⟨r, μ', he, h⟩ := h
    exact p_callV rfl (Nat.le_of_ble_eq_true rfl) rfl rfl (Nat.le_of_ble_eq_true rfl) (ml_kd hΦ) he h
theorem B178_45 {ev : xV} {Q : Option Value → xM → Prop} {m : Nat} {Φ : (Nat → Nat → Int32) → xM} (hΦ : MLaw m Φ) {μ : Nat → Nat → Int32} {x1 x2 s0 : Int32} (h : ((s0 = 0) → Q (some (.int 0)) (Φ μ)) ∧ (¬ (s0 = 0) → (∃ r μ', ev 177 [.ref m, .int 4] (Φ μ) (some (.int r)) (Φ μ') ∧ wpE (xT 178) ev Q (55, [(0, .ref m), (1, .int x1), (2, .int x2)], [.int r], Φ μ')))) : wpE (xT 178) ev Q (45, [(0, .ref m), (1, .int x1), (2, .int x2)], [.int s0], Φ μ) := by
  refine p_if rfl (fun c => ?_) (fun c => ?_)
  · have h := h.1 c
    refine p_push (v := .int 0) rfl ?_
    exact p_ri rfl (by decide) h
  · have h := h.2 c
    refine p_ald rfl rfl ?_
    refine p_push (v := .int 4) rfl ?_
    obtain ⟨r, μ', he, h⟩ := h
    exact p_callV rfl (Nat.le_of_ble_eq_true rfl) rfl rfl (Nat.le_of_ble_eq_true rfl) (ml_kd hΦ) he h
theorem B178_55 {ev : xV} {Q : Option Value → xM → Prop} {m : Nat} {Φ : (Nat → Nat → Int32) → xM} (hΦ : MLaw m Φ) {μ : Nat → Nat → Int32} {x1 x2 s0 : Int32} (h : ((s0 = 0) → (∃ r μ', ev 180 [.ref m, .int 45] (Φ μ) (some (.int r)) (Φ μ') ∧ wpE (xT 178) ev Q (73, [(0, .ref m), (1, .int x1), (2, .int x2)], [.int r], Φ μ'))) ∧ (¬ (s0 = 0) → (∃ μ', ev 181 [.ref m, .int ((-3))] (Φ μ) none (Φ μ') ∧ wpE (xT 178) ev Q (64, [(0, .ref m), (1, .int x1), (2, .int x2)], [], Φ μ')))) : wpE (xT 178) ev Q (55, [(0, .ref m), (1, .int x1), (2, .int x2)], [.int s0], Φ μ) := by
  refine p_if rfl (fun c => ?_) (fun c => ?_)
  · have h := h.1 c
    refine p_ald rfl rfl ?_
    refine p_push (v := .int 45) rfl ?_
    obtain ⟨r, μ', he, h⟩ := h
    exact p_callV rfl (Nat.le_of_ble_eq_true rfl) rfl rfl (Nat.le_of_ble_eq_true rfl) (ml_kd hΦ) he h
  · have h := h.2 c
    refine p_ald rfl rfl ?_
    refine p_push (v := .int (-3)) rfl ?_
    obtain ⟨μ', he, h⟩ := h
    exact p_callV rfl (Nat.le_of_ble_eq_true rfl) rfl rfl (Nat.le_of_ble_eq_true rfl) (ml_kd hΦ) he h
theorem B178_64 {ev : xV} {Q : Option Value → xM → Prop} {m : Nat} {Φ : (Nat → Nat → Int32) → xM} (hΦ : MLaw m Φ) {μ : Nat → Nat → Int32} {x1 x2 : Int32} (h : (∃ μ', ev 172 [.ref m] (Φ μ) none (Φ μ') ∧ wpE (xT 178) ev Q (166, [(0, .ref m), (1, .int x1), (2, .int x2)], [], Φ μ'))) : wpE (xT 178) ev Q (64, [(0, .ref m), (1, .int x1), (2, .int x2)], [], Φ μ) := by
  refine p_goto rfl ?_
  refine p_ald rfl rfl ?_
  obtain ⟨μ', he, h⟩ := h
  exact p_callV rfl (Nat.le_of_ble_eq_true rfl) rfl rfl (Nat.le_of_ble_eq_true rfl) (ml_kd hΦ) he h
theorem B178_73 {ev : xV} {Q : Option Value → xM → Prop} {m : Nat} {Φ : (Nat → Nat → Int32) → xM} (hΦ : MLaw m Φ) {μ : Nat → Nat → Int32} {x1 x2 s0 : Int32} (h : ((s0 = 0) → (∃ r μ', ev 180 [.ref m, .int 40] (Φ μ) (some (.int r)) (Φ μ') ∧ wpE (xT 178) ev Q (93, [(0, .ref m), (1, .int x1), (2, .int x2)], [.int r], Φ μ'))) ∧ (¬ (s0 = 0) → (∃ μ', ev 181 [.ref m, .int ((-9))] (Φ μ) none (Φ μ') ∧ wpE (xT 178) ev Q (82, [(0, .ref m), (1, .int x1), (2, .int x2)], [], Φ μ')))) : wpE (xT 178) ev Q (73, [(0, .ref m), (1, .int x1), (2, .int x2)], [.int s0], Φ μ) := by
  refine p_if rfl (fun c => ?_) (fun c => ?_)
  · have h := h.1 c
    refine p_ald rfl rfl ?_
    refine p_push (v := .int 40) rfl ?_
    obtain ⟨r, μ', he, h⟩ := h
    exact p_callV rfl (Nat.le_of_ble_eq_true rfl) rfl rfl (Nat.le_of_ble_eq_true rfl) (ml_kd hΦ) he h
  · have h := h.2 c
    refine p_ald rfl rfl ?_
    refine p_push (v := .int (-9)) rfl ?_
    obtain ⟨μ', he, h⟩ := h
    exact p_callV rfl (Nat.le_of_ble_eq_true rfl) rfl rfl (Nat.le_of_ble_eq_true rfl) (ml_kd hΦ) he h
theorem B178_82 {ev : xV} {Q : Option Value → xM → Prop} {m : Nat} {Φ : (Nat → Nat → Int32) → xM} (hΦ : MLaw m Φ) {μ : Nat → Nat → Int32} {x1 x2 : Int32} (h : (∃ μ', ev 172 [.ref m] (Φ μ) none (Φ μ') ∧ wpE (xT 178) ev Q (166, [(0, .ref m), (1, .int x1), (2, .int 0)], [], Φ μ'))) : wpE (xT 178) ev Q (82, [(0, .ref m), (1, .int x1), (2, .int x2)], [], Φ μ) := by
  refine p_push (v := .int 0) rfl ?_
  refine p_ist (ls' := [(2, .int 0), (0, .ref m), (1, .int x1)]) rfl (by decide) rfl ?_
  refine p_goto rfl ?_
  refine p_loc (ls' := [(0, .ref m), (1, .int x1), (2, .int 0)]) rfl ?_
  refine p_ald rfl rfl ?_
  obtain ⟨μ', he, h⟩ := h
  exact p_callV rfl (Nat.le_of_ble_eq_true rfl) rfl rfl (Nat.le_of_ble_eq_true rfl) (ml_kd hΦ) he h
theorem B178_93 {ev : xV} {Q : Option Value → xM → Prop} {m : Nat} {Φ : (Nat → Nat → Int32) → xM} (hΦ : MLaw m Φ) {μ : Nat → Nat → Int32} {x1 x2 s0 : Int32} (h : ((s0 = 0) → (((μ 0 47) = 1) → (∃ μ', ev 182 [.ref m, .int (μ 0 48)] (Φ μ) none (Φ μ') ∧ wpE (xT 178) ev Q (154, [(0, .ref m), (2, .int x2)], [], Φ μ'))) ∧ (¬ ((μ 0 47) = 1) → (∃ μ', ev 182 [.ref m, .int (10000 + (μ 0 48))] (Φ μ) none (Φ μ') ∧ wpE (xT 178) ev Q (154, [(0, .ref m), (2, .int x2)], [], Φ μ')))) ∧ (¬ (s0 = 0) → (∃ μ', ev 181 [.ref m, .int ((-10))] (Φ μ) none (Φ μ') ∧ wpE (xT 178) ev Q (102, [(0, .ref m), (1, .int x1), (2, .int x2)], [], Φ μ')))) : wpE (xT 178) ev Q (93, [(0, .ref m), (1, .int x1), (2, .int x2)], [.int s0], Φ μ) := by
  refine p_if rfl (fun c => ?_) (fun c => ?_)
  · have h := h.1 c
    refine p_ald rfl rfl ?_
    refine p_ald rfl rfl ?_
    refine pm_geti hΦ (v := μ 0 47) rfl rfl ?_
    refine p_push (v := .int 1) rfl ?_
    refine p_icmp rfl (fun c => ?_) (fun c => ?_)
    · have h := h.1 c
      refine p_ald rfl rfl ?_
      refine pm_geti hΦ (v := μ 0 48) rfl rfl ?_
      refine p_goto rfl ?_
      refine p_loc (ls' := [(0, .ref m), (2, .int x2)]) rfl ?_
      obtain ⟨μ', he, h⟩ := h
      exact p_callV rfl (Nat.le_of_ble_eq_true rfl) rfl rfl (Nat.le_of_ble_eq_true rfl) (ml_kd hΦ) he h
    · have h := h.2 c
      refine p_push (v := .int 10000) rfl ?_
      refine p_ald rfl rfl ?_
      refine pm_geti hΦ (v := μ 0 48) rfl rfl ?_
      refine p_bin rfl ?_
      refine p_loc (ls' := [(0, .ref m), (2, .int x2)]) rfl ?_
      obtain ⟨μ', he, h⟩ := h
      exact p_callV rfl (Nat.le_of_ble_eq_true rfl) rfl rfl (Nat.le_of_ble_eq_true rfl) (ml_kd hΦ) he h
  · have h := h.2 c
    refine p_ald rfl rfl ?_
    refine p_push (v := .int (-10)) rfl ?_
    obtain ⟨μ', he, h⟩ := h
    exact p_callV rfl (Nat.le_of_ble_eq_true rfl) rfl rfl (Nat.le_of_ble_eq_true rfl) (ml_kd hΦ) he h
theorem B178_102 {ev : xV} {Q : Option Value → xM → Prop} {m : Nat} {Φ : (Nat → Nat → Int32) → xM} (hΦ : MLaw m Φ) {μ : Nat → Nat → Int32} {x1 x2 : Int32} (h : vp_in ((μ 0 53) + 1) 7 ∧ (∃ μ', ev 172 [.ref m] (Φ (U (U μ 0 53 ((μ 0 53) + 1)) 36 (((μ 0 53) + 1).toNatClampNeg) (vp_nar .boolean 0))) none (Φ μ') ∧ wpE (xT 178) ev Q (166, [(0, .ref m), (1, .int x1), (2, .int 1)], [], Φ μ'))) : wpE (xT 178) ev Q (102, [(0, .ref m), (1, .int x1), (2, .int x2)], [], Φ μ) := by
  refine p_ald rfl rfl ?_
  refine p_dup rfl rfl ?_
  refine pm_geti hΦ (v := μ 0 53) rfl rfl ?_
  refine p_push (v := .int 1) rfl ?_
  refine p_bin rfl ?_
  refine pm_puti hΦ rfl ?_
  refine p_ald rfl rfl ?_
  refine pm_getp hΦ rfl (c := 36) rfl (by decide) ?_
  refine p_ald rfl rfl ?_
  refine pm_geti hΦ (v := (μ 0 53) + 1) rfl rfl ?_
  refine p_push (v := .int 0) rfl ?_
  obtain ⟨g, h⟩ := h
  refine pm_asti hΦ (c := 36) (n := 7) rfl (by decide) rfl rfl g ?_
  refine p_push (v := .int 1) rfl ?_
  refine p_ist (ls' := [(2, .int 1), (0, .ref m), (1, .int x1)]) rfl (by decide) rfl ?_
  refine p_goto rfl ?_
  refine p_loc (ls' := [(0, .ref m), (1, .int x1), (2, .int 1)]) rfl ?_
  refine p_ald rfl rfl ?_
  obtain ⟨μ', he, h⟩ := h
  exact p_callV rfl (Nat.le_of_ble_eq_true rfl) rfl rfl (Nat.le_of_ble_eq_true rfl) (ml_kd hΦ) he h
theorem B178_154 {ev : xV} {Q : Option Value → xM → Prop} {m : Nat} {Φ : (Nat → Nat → Int32) → xM} (hΦ : MLaw m Φ) {μ : Nat → Nat → Int32} {x2 : Int32} (h : (∃ μ', ev 183 [.ref m, .int 7] (Φ μ) none (Φ μ') ∧ wpE (xT 178) ev Q (160, [(0, .ref m), (2, .int x2)], [], Φ μ'))) : wpE (xT 178) ev Q (154, [(0, .ref m), (2, .int x2)], [], Φ μ) := by
  refine p_ald rfl rfl ?_
  refine p_push (v := .int 7) rfl ?_
  obtain ⟨μ', he, h⟩ := h
  exact p_callV rfl (Nat.le_of_ble_eq_true rfl) rfl rfl (Nat.le_of_ble_eq_true rfl) (ml_kd hΦ) he h
theorem B178_160 {ev : xV} {Q : Option Value → xM → Prop} {m : Nat} {Φ : (Nat → Nat → Int32) → xM} (hΦ : MLaw m Φ) {μ : Nat → Nat → Int32} {x2 : Int32} (h : (∃ μ', ev 172 [.ref m] (Φ μ) none (Φ μ') ∧ wpE (xT 178) ev Q (166, [(0, .ref m), (1, .int 0), (2, .int x2)], [], Φ μ'))) : wpE (xT 178) ev Q (160, [(0, .ref m), (2, .int x2)], [], Φ μ) := by
  refine p_push (v := .int 0) rfl ?_
  refine p_ist (ls' := [(1, .int 0), (0, .ref m), (2, .int x2)]) rfl (by decide) rfl ?_
  refine p_loc (ls' := [(0, .ref m), (1, .int 0), (2, .int x2)]) rfl ?_
  refine p_ald rfl rfl ?_
  obtain ⟨μ', he, h⟩ := h
  exact p_callV rfl (Nat.le_of_ble_eq_true rfl) rfl rfl (Nat.le_of_ble_eq_true rfl) (ml_kd hΦ) he h
theorem B178_166 {ev : xV} {Q : Option Value → xM → Prop} {m : Nat} {Φ : (Nat → Nat → Int32) → xM} (hΦ : MLaw m Φ) {μ : Nat → Nat → Int32} {x1 x2 : Int32} (h : wpE (xT 178) ev Q (36, [(0, .ref m), (1, .int x1), (2, .int x2)], [], Φ μ)) : wpE (xT 178) ev Q (166, [(0, .ref m), (1, .int x1), (2, .int x2)], [], Φ μ) := by
  refine p_goto rfl ?_
  exact h
theorem B178_175 {ev : xV} {Q : Option Value → xM → Prop} {m : Nat} {Φ : (Nat → Nat → Int32) → xM} (hΦ : MLaw m Φ) {μ : Nat → Nat → Int32} {x1 x2 s0 : Int32} (h : ((s0 = 0) → (∃ r μ', ev 180 [.ref m, .int 41] (Φ μ) (some (.int r)) (Φ μ') ∧ wpE (xT 178) ev Q (202, [(0, .ref m), (1, .int x1), (2, .int x2)], [.int r], Φ μ'))) ∧ (¬ (s0 = 0) → (∃ μ', ev 183 [.ref m, .int 1] (Φ μ) none (Φ μ') ∧ wpE (xT 178) ev Q (183, [(0, .ref m), (1, .int x1), (2, .int x2)], [], Φ μ')))) : wpE (xT 178) ev Q (175, [(0, .ref m), (1, .int x1), (2, .int x2)], [.int s0], Φ μ) := by
  refine p_if rfl (fun c => ?_) (fun c => ?_)
  · have h := h.1 c
    refine p_ald rfl rfl ?_
    refine p_push (v := .int 41) rfl ?_
    obtain ⟨r, μ', he, h⟩ := h
    exact p_callV rfl (Nat.le_of_ble_eq_true rfl) rfl rfl (Nat.le_of_ble_eq_true rfl) (ml_kd hΦ) he h
  · have h := h.2 c
    refine p_ald rfl rfl ?_
    refine p_push (v := .int 1) rfl ?_
    obtain ⟨μ', he, h⟩ := h
    exact p_callV rfl (Nat.le_of_ble_eq_true rfl) rfl rfl (Nat.le_of_ble_eq_true rfl) (ml_kd hΦ) he h
theorem B178_183 {ev : xV} {Q : Option Value → xM → Prop} {m : Nat} {Φ : (Nat → Nat → Int32) → xM} (hΦ : MLaw m Φ) {μ : Nat → Nat → Int32} {x1 x2 : Int32} (h : (((μ 0 53) = 0) → Q (some (.int 1)) (Φ μ)) ∧ (¬ ((μ 0 53) = 0) → Q (some (.int 0)) (Φ μ))) : wpE (xT 178) ev Q (183, [(0, .ref m), (1, .int x1), (2, .int x2)], [], Φ μ) := by
  refine p_ald rfl rfl ?_
  refine pm_geti hΦ (v := μ 0 53) rfl rfl ?_
  refine p_if rfl (fun c => ?_) (fun c => ?_)
  · have h := h.1 c
    refine p_push (v := .int 1) rfl ?_
    refine p_goto rfl ?_
    refine p_loc (ls' := []) rfl ?_
    exact p_ri rfl (by decide) h
  · have h := h.2 c
    refine p_push (v := .int 0) rfl ?_
    refine p_loc (ls' := []) rfl ?_
    exact p_ri rfl (by decide) h
theorem B178_202 {ev : xV} {Q : Option Value → xM → Prop} {m : Nat} {Φ : (Nat → Nat → Int32) → xM} (hΦ : MLaw m Φ) {μ : Nat → Nat → Int32} {x1 x2 s0 : Int32} (h : ((s0 = 0) → (∃ r μ', ev 185 [.ref m] (Φ μ) (some (.int r)) (Φ μ') ∧ wpE (xT 178) ev Q (266, [(0, .ref m), (1, .int x1), (2, .int x2)], [.int r], Φ μ'))) ∧ (¬ (s0 = 0) → (((μ 0 53) = 0) → Q (some (.int 0)) (Φ μ)) ∧ (¬ ((μ 0 53) = 0) → (∃ μ', ev 183 [.ref m, .int 1] (Φ μ) none (Φ μ') ∧ wpE (xT 178) ev Q (219, [(0, .ref m), (1, .int x1), (2, .int x2)], [], Φ μ'))))) : wpE (xT 178) ev Q (202, [(0, .ref m), (1, .int x1), (2, .int x2)], [.int s0], Φ μ) := by
  refine p_if rfl (fun c => ?_) (fun c => ?_)
  · have h := h.1 c
    refine p_ald rfl rfl ?_
    obtain ⟨r, μ', he, h⟩ := h
    exact p_callV rfl (Nat.le_of_ble_eq_true rfl) rfl rfl (Nat.le_of_ble_eq_true rfl) (ml_kd hΦ) he h
  · have h := h.2 c
    refine p_ald rfl rfl ?_
    refine pm_geti hΦ (v := μ 0 53) rfl rfl ?_
    refine p_if rfl (fun c => ?_) (fun c => ?_)
    · have h := h.1 c
      refine p_push (v := .int 0) rfl ?_
      exact p_ri rfl (by decide) h
    · have h := h.2 c
      refine p_ald rfl rfl ?_
      refine p_push (v := .int 1) rfl ?_
      obtain ⟨μ', he, h⟩ := h
      exact p_callV rfl (Nat.le_of_ble_eq_true rfl) rfl rfl (Nat.le_of_ble_eq_true rfl) (ml_kd hΦ) he h
theorem B178_219 {ev : xV} {Q : Option Value → xM → Prop} {m : Nat} {Φ : (Nat → Nat → Int32) → xM} (hΦ : MLaw m Φ) {μ : Nat → Nat → Int32} {x1 x2 : Int32} (h : (∃ μ', ev 183 [.ref m, .int 7] (Φ (U (U (U μ 0 52 ((μ 0 52) - 1)) 0 54 ((μ 0 54) - 1)) 0 53 ((μ 0 53) - 1))) none (Φ μ') ∧ wpE (xT 178) ev Q (255, [(0, .ref m), (1, .int x1), (2, .int x2)], [], Φ μ'))) : wpE (xT 178) ev Q (219, [(0, .ref m), (1, .int x1), (2, .int x2)], [], Φ μ) := by
  refine p_ald rfl rfl ?_
  refine p_dup rfl rfl ?_
  refine pm_geti hΦ (v := μ 0 52) rfl rfl ?_
  refine p_push (v := .int 1) rfl ?_
  refine p_bin rfl ?_
  refine pm_puti hΦ rfl ?_
  refine p_ald rfl rfl ?_
  refine p_dup rfl rfl ?_
  refine pm_geti hΦ (v := μ 0 54) rfl rfl ?_
  refine p_push (v := .int 1) rfl ?_
  refine p_bin rfl ?_
  refine pm_puti hΦ rfl ?_
  refine p_ald rfl rfl ?_
  refine p_dup rfl rfl ?_
  refine pm_geti hΦ (v := μ 0 53) rfl rfl ?_
  refine p_push (v := .int 1) rfl ?_
  refine p_bin rfl ?_
  refine pm_puti hΦ rfl ?_
  refine p_ald rfl rfl ?_
  refine p_push (v := .int 7) rfl ?_
  obtain ⟨μ', he, h⟩ := h
  exact p_callV rfl (Nat.le_of_ble_eq_true rfl) rfl rfl (Nat.le_of_ble_eq_true rfl) (ml_kd hΦ) he h
theorem B178_255 {ev : xV} {Q : Option Value → xM → Prop} {m : Nat} {Φ : (Nat → Nat → Int32) → xM} (hΦ : MLaw m Φ) {μ : Nat → Nat → Int32} {x1 x2 : Int32} (h : (∃ μ', ev 172 [.ref m] (Φ μ) none (Φ μ') ∧ wpE (xT 178) ev Q (259, [(0, .ref m), (1, .int x1), (2, .int x2)], [], Φ μ'))) : wpE (xT 178) ev Q (255, [(0, .ref m), (1, .int x1), (2, .int x2)], [], Φ μ) := by
  refine p_ald rfl rfl ?_
  obtain ⟨μ', he, h⟩ := h
  exact p_callV rfl (Nat.le_of_ble_eq_true rfl) rfl rfl (Nat.le_of_ble_eq_true rfl) (ml_kd hΦ) he h
theorem B178_259 {ev : xV} {Q : Option Value → xM → Prop} {m : Nat} {Φ : (Nat → Nat → Int32) → xM} (hΦ : MLaw m Φ) {μ : Nat → Nat → Int32} {x1 x2 : Int32} (h : wpE (xT 178) ev Q (36, [(0, .ref m), (1, .int x1), (2, .int x2)], [], Φ μ)) : wpE (xT 178) ev Q (259, [(0, .ref m), (1, .int x1), (2, .int x2)], [], Φ μ) := by
  refine p_goto rfl ?_
  exact h
theorem B178_266 {ev : xV} {Q : Option Value → xM → Prop} {m : Nat} {Φ : (Nat → Nat → Int32) → xM} (hΦ : MLaw m Φ) {μ : Nat → Nat → Int32} {x1 x2 s0 : Int32} (h : ((s0 = 0) → Q (some (.int 0)) (Φ μ)) ∧ (¬ (s0 = 0) → (∃ r μ', ev 184 [.ref m, .int s0] (Φ μ) (some (.int r)) (Φ μ') ∧ wpE (xT 178) ev Q (276, [(3, .int s0), (0, .ref m), (1, .int x1), (2, .int x2)], [.int r], Φ μ')))) : wpE (xT 178) ev Q (266, [(0, .ref m), (1, .int x1), (2, .int x2)], [.int s0], Φ μ) := by
  refine p_ist (ls' := [(3, .int s0), (0, .ref m), (1, .int x1), (2, .int x2)]) rfl (by decide) rfl ?_
  refine p_ild rfl rfl ?_
  refine p_if rfl (fun c => ?_) (fun c => ?_)
  · have h := h.1 c
    refine p_loc (ls' := []) rfl ?_
    refine p_push (v := .int 0) rfl ?_
    exact p_ri rfl (by decide) h
  · have h := h.2 c
    refine p_ald rfl rfl ?_
    refine p_ild rfl rfl ?_
    obtain ⟨r, μ', he, h⟩ := h
    exact p_callV rfl (Nat.le_of_ble_eq_true rfl) rfl rfl (Nat.le_of_ble_eq_true rfl) (ml_kd hΦ) he h
theorem B178_276 {ev : xV} {Q : Option Value → xM → Prop} {m : Nat} {Φ : (Nat → Nat → Int32) → xM} (hΦ : MLaw m Φ) {μ : Nat → Nat → Int32} {x3 x1 x2 s0 : Int32} (h : ((s0 = 4) → vp_in (μ 0 53) 7 ∧ (((μ 36 (μ 0 53).toNatClampNeg) = 0) → (∃ r μ', ev 184 [.ref m, .int x3] (Φ μ) (some (.int r)) (Φ μ') ∧ wpE (xT 178) ev Q (307, [(0, .ref m), (3, .int x3)], [.int r, .int (μ 0 53), .ref (m + 36)], Φ μ'))) ∧ (¬ ((μ 36 (μ 0 53).toNatClampNeg) = 0) → Q (some (.int 0)) (Φ μ))) ∧ (¬ (s0 = 4) → (∃ r μ', ev 184 [.ref m, .int x3] (Φ μ) (some (.int r)) (Φ μ') ∧ wpE (xT 178) ev Q (307, [(0, .ref m), (3, .int x3)], [.int r, .int (μ 0 53), .ref (m + 36)], Φ μ')))) : wpE (xT 178) ev Q (276, [(3, .int x3), (0, .ref m), (1, .int x1), (2, .int x2)], [.int s0], Φ μ) := by
  refine p_push (v := .int 4) rfl ?_
  refine p_icmp rfl (fun c => ?_) (fun c => ?_)
  · have h := h.1 c
    refine p_ald rfl rfl ?_
    refine pm_getp hΦ rfl (c := 36) rfl (by decide) ?_
    refine p_ald rfl rfl ?_
    refine pm_geti hΦ (v := μ 0 53) rfl rfl ?_
    obtain ⟨g, h⟩ := h
    refine pm_aldi hΦ (c := 36) (n := 7) rfl (by decide) rfl rfl g rfl ?_
    refine p_if rfl (fun c => ?_) (fun c => ?_)
    · have h := h.1 c
      refine p_loc (ls' := [(0, .ref m), (3, .int x3)]) rfl ?_
      refine p_ald rfl rfl ?_
      refine pm_getp hΦ rfl (c := 36) rfl (by decide) ?_
      refine p_ald rfl rfl ?_
      refine pm_geti hΦ (v := μ 0 53) rfl rfl ?_
      refine p_ald rfl rfl ?_
      refine p_ild rfl rfl ?_
      obtain ⟨r, μ', he, h⟩ := h
      exact p_callV rfl (Nat.le_of_ble_eq_true rfl) rfl rfl (Nat.le_of_ble_eq_true rfl) (ml_kd hΦ) he h
    · have h := h.2 c
      refine p_loc (ls' := []) rfl ?_
      refine p_push (v := .int 0) rfl ?_
      exact p_ri rfl (by decide) h
  · have h := h.2 c
    refine p_loc (ls' := [(0, .ref m), (3, .int x3)]) rfl ?_
    refine p_ald rfl rfl ?_
    refine pm_getp hΦ rfl (c := 36) rfl (by decide) ?_
    refine p_ald rfl rfl ?_
    refine pm_geti hΦ (v := μ 0 53) rfl rfl ?_
    refine p_ald rfl rfl ?_
    refine p_ild rfl rfl ?_
    obtain ⟨r, μ', he, h⟩ := h
    exact p_callV rfl (Nat.le_of_ble_eq_true rfl) rfl rfl (Nat.le_of_ble_eq_true rfl) (ml_kd hΦ) he h
theorem B178_307 {ev : xV} {Q : Option Value → xM → Prop} {m : Nat} {Φ : (Nat → Nat → Int32) → xM} (hΦ : MLaw m Φ) {μ : Nat → Nat → Int32} {x3 s0 s1 : Int32} (h : ((s0 = 4) → vp_in s1 7 ∧ (∃ r μ', ev 184 [.ref m, .int x3] (Φ (U μ 36 s1.toNatClampNeg (vp_nar .boolean 1))) (some (.int r)) (Φ μ') ∧ wpE (xT 178) ev Q (344, [(0, .ref m), (3, .int x3)], [.int r, .ref m], Φ μ'))) ∧ (¬ (s0 = 4) → (∃ r μ', ev 184 [.ref m, .int x3] (Φ μ) (some (.int r)) (Φ μ') ∧ wpE (xT 178) ev Q (316, [(0, .ref m), (3, .int x3)], [.int r, .int s1, .ref (m + 36)], Φ μ')))) : wpE (xT 178) ev Q (307, [(0, .ref m), (3, .int x3)], [.int s0, .int s1, .ref (m + 36)], Φ μ) := by
  refine p_push (v := .int 4) rfl ?_
  refine p_icmp rfl (fun c => ?_) (fun c => ?_)
  · have h := h.1 c
    refine p_push (v := .int 1) rfl ?_
    refine p_goto rfl ?_
    obtain ⟨g, h⟩ := h
    refine pm_asti hΦ (c := 36) (n := 7) rfl (by decide) rfl rfl g ?_
    refine p_ald rfl rfl ?_
    refine p_ald rfl rfl ?_
    refine p_ild rfl rfl ?_
    obtain ⟨r, μ', he, h⟩ := h
    exact p_callV rfl (Nat.le_of_ble_eq_true rfl) rfl rfl (Nat.le_of_ble_eq_true rfl) (ml_kd hΦ) he h
  · have h := h.2 c
    refine p_ald rfl rfl ?_
    refine p_ild rfl rfl ?_
    obtain ⟨r, μ', he, h⟩ := h
    exact p_callV rfl (Nat.le_of_ble_eq_true rfl) rfl rfl (Nat.le_of_ble_eq_true rfl) (ml_kd hΦ) he h
theorem B178_316 {ev : xV} {Q : Option Value → xM → Prop} {m : Nat} {Φ : (Nat → Nat → Int32) → xM} (hΦ : MLaw m Φ) {μ : Nat → Nat → Int32} {x3 s0 s1 : Int32} (h : ((s0 ≤ 2) → vp_in s1 7 ∧ (∃ r μ', ev 184 [.ref m, .int x3] (Φ (U μ 36 s1.toNatClampNeg (vp_nar .boolean 0))) (some (.int r)) (Φ μ') ∧ wpE (xT 178) ev Q (344, [(0, .ref m), (3, .int x3)], [.int r, .ref m], Φ μ'))) ∧ (¬ (s0 ≤ 2) → vp_in (μ 0 53) 7 ∧ (((μ 36 (μ 0 53).toNatClampNeg) = 0) → vp_in s1 7 ∧ (∃ r μ', ev 184 [.ref m, .int x3] (Φ (U μ 36 s1.toNatClampNeg (vp_nar .boolean 0))) (some (.int r)) (Φ μ') ∧ wpE (xT 178) ev Q (344, [(0, .ref m), (3, .int x3)], [.int r, .ref m], Φ μ'))) ∧ (¬ ((μ 36 (μ 0 53).toNatClampNeg) = 0) → vp_in s1 7 ∧ (∃ r μ', ev 184 [.ref m, .int x3] (Φ (U μ 36 s1.toNatClampNeg (vp_nar .boolean 1))) (some (.int r)) (Φ μ') ∧ wpE (xT 178) ev Q (344, [(0, .ref m), (3, .int x3)], [.int r, .ref m], Φ μ'))))) : wpE (xT 178) ev Q (316, [(0, .ref m), (3, .int x3)], [.int s0, .int s1, .ref (m + 36)], Φ μ) := by
  refine p_push (v := .int 2) rfl ?_
  refine p_icmp rfl (fun c => ?_) (fun c => ?_)
  · have h := h.1 c
    refine p_push (v := .int 0) rfl ?_
    obtain ⟨g, h⟩ := h
    refine pm_asti hΦ (c := 36) (n := 7) rfl (by decide) rfl rfl g ?_
    refine p_ald rfl rfl ?_
    refine p_ald rfl rfl ?_
    refine p_ild rfl rfl ?_
    obtain ⟨r, μ', he, h⟩ := h
    exact p_callV rfl (Nat.le_of_ble_eq_true rfl) rfl rfl (Nat.le_of_ble_eq_true rfl) (ml_kd hΦ) he h
  · have h := h.2 c
    refine p_ald rfl rfl ?_
    refine pm_getp hΦ rfl (c := 36) rfl (by decide) ?_
    refine p_ald rfl rfl ?_
    refine pm_geti hΦ (v := μ 0 53) rfl rfl ?_
    obtain ⟨g, h⟩ := h
    refine pm_aldi hΦ (c := 36) (n := 7) rfl (by decide) rfl rfl g rfl ?_
    refine p_if rfl (fun c => ?_) (fun c => ?_)
    · have h := h.1 c
      refine p_push (v := .int 0) rfl ?_
      obtain ⟨g, h⟩ := h
      refine pm_asti hΦ (c := 36) (n := 7) rfl (by decide) rfl rfl g ?_
      refine p_ald rfl rfl ?_
      refine p_ald rfl rfl ?_
      refine p_ild rfl rfl ?_
      obtain ⟨r, μ', he, h⟩ := h
      exact p_callV rfl (Nat.le_of_ble_eq_true rfl) rfl rfl (Nat.le_of_ble_eq_true rfl) (ml_kd hΦ) he h
    · have h := h.2 c
      refine p_push (v := .int 1) rfl ?_
      refine p_goto rfl ?_
      obtain ⟨g, h⟩ := h
      refine pm_asti hΦ (c := 36) (n := 7) rfl (by decide) rfl rfl g ?_
      refine p_ald rfl rfl ?_
      refine p_ald rfl rfl ?_
      refine p_ild rfl rfl ?_
      obtain ⟨r, μ', he, h⟩ := h
      exact p_callV rfl (Nat.le_of_ble_eq_true rfl) rfl rfl (Nat.le_of_ble_eq_true rfl) (ml_kd hΦ) he h
theorem B178_344 {ev : xV} {Q : Option Value → xM → Prop} {m : Nat} {Φ : (Nat → Nat → Int32) → xM} (hΦ : MLaw m Φ) {μ : Nat → Nat → Int32} {x3 s0 : Int32} (h : (∃ μ', ev 183 [.ref m, .int s0] (Φ μ) none (Φ μ') ∧ wpE (xT 178) ev Q (347, [(0, .ref m), (3, .int x3)], [], Φ μ'))) : wpE (xT 178) ev Q (344, [(0, .ref m), (3, .int x3)], [.int s0, .ref m], Φ μ) := by
  obtain ⟨μ', he, h⟩ := h
  exact p_callV rfl (Nat.le_of_ble_eq_true rfl) rfl rfl (Nat.le_of_ble_eq_true rfl) (ml_kd hΦ) he h
theorem B178_347 {ev : xV} {Q : Option Value → xM → Prop} {m : Nat} {Φ : (Nat → Nat → Int32) → xM} (hΦ : MLaw m Φ) {μ : Nat → Nat → Int32} {x3 : Int32} (h : (∃ μ', ev 181 [.ref m, .int x3] (Φ μ) none (Φ μ') ∧ wpE (xT 178) ev Q (352, [(0, .ref m), (3, .int x3)], [], Φ μ'))) : wpE (xT 178) ev Q (347, [(0, .ref m), (3, .int x3)], [], Φ μ) := by
  refine p_ald rfl rfl ?_
  refine p_ild rfl rfl ?_
  obtain ⟨μ', he, h⟩ := h
  exact p_callV rfl (Nat.le_of_ble_eq_true rfl) rfl rfl (Nat.le_of_ble_eq_true rfl) (ml_kd hΦ) he h
theorem B178_352 {ev : xV} {Q : Option Value → xM → Prop} {m : Nat} {Φ : (Nat → Nat → Int32) → xM} (hΦ : MLaw m Φ) {μ : Nat → Nat → Int32} {x3 : Int32} (h : (∃ r μ', ev 184 [.ref m, .int x3] (Φ μ) (some (.int r)) (Φ μ') ∧ wpE (xT 178) ev Q (359, [(1, .int 1), (0, .ref m), (3, .int x3)], [.int r], Φ μ'))) : wpE (xT 178) ev Q (352, [(0, .ref m), (3, .int x3)], [], Φ μ) := by
  refine p_push (v := .int 1) rfl ?_
  refine p_ist (ls' := [(1, .int 1), (0, .ref m), (3, .int x3)]) rfl (by decide) rfl ?_
  refine p_ald rfl rfl ?_
  refine p_ild rfl rfl ?_
  obtain ⟨r, μ', he, h⟩ := h
  exact p_callV rfl (Nat.le_of_ble_eq_true rfl) rfl rfl (Nat.le_of_ble_eq_true rfl) (ml_kd hΦ) he h
theorem B178_359 {ev : xV} {Q : Option Value → xM → Prop} {m : Nat} {Φ : (Nat → Nat → Int32) → xM} (hΦ : MLaw m Φ) {μ : Nat → Nat → Int32} {x1 x3 s0 : Int32} (h : ((3 ≤ s0) → (∃ μ', ev 172 [.ref m] (Φ μ) none (Φ μ') ∧ wpE (xT 178) ev Q (373, [(2, .int 0), (0, .ref m), (1, .int x1)], [], Φ μ'))) ∧ (¬ (3 ≤ s0) → (∃ μ', ev 172 [.ref m] (Φ μ) none (Φ μ') ∧ wpE (xT 178) ev Q (373, [(2, .int 1), (0, .ref m), (1, .int x1)], [], Φ μ')))) : wpE (xT 178) ev Q (359, [(1, .int x1), (0, .ref m), (3, .int x3)], [.int s0], Φ μ) := by
  refine p_push (v := .int 3) rfl ?_
  refine p_icmp rfl (fun c => ?_) (fun c => ?_)
  · have h := h.1 c
    refine p_push (v := .int 0) rfl ?_
    refine p_loc (ls' := [(0, .ref m), (1, .int x1)]) rfl ?_
    refine p_ist (ls' := [(2, .int 0), (0, .ref m), (1, .int x1)]) rfl (by decide) rfl ?_
    refine p_ald rfl rfl ?_
    obtain ⟨μ', he, h⟩ := h
    exact p_callV rfl (Nat.le_of_ble_eq_true rfl) rfl rfl (Nat.le_of_ble_eq_true rfl) (ml_kd hΦ) he h
  · have h := h.2 c
    refine p_push (v := .int 1) rfl ?_
    refine p_goto rfl ?_
    refine p_loc (ls' := [(0, .ref m), (1, .int x1)]) rfl ?_
    refine p_ist (ls' := [(2, .int 1), (0, .ref m), (1, .int x1)]) rfl (by decide) rfl ?_
    refine p_ald rfl rfl ?_
    obtain ⟨μ', he, h⟩ := h
    exact p_callV rfl (Nat.le_of_ble_eq_true rfl) rfl rfl (Nat.le_of_ble_eq_true rfl) (ml_kd hΦ) he h
theorem B178_373 {ev : xV} {Q : Option Value → xM → Prop} {m : Nat} {Φ : (Nat → Nat → Int32) → xM} (hΦ : MLaw m Φ) {μ : Nat → Nat → Int32} {x2 x1 : Int32} (h : wpE (xT 178) ev Q (36, [(0, .ref m), (1, .int x1), (2, .int x2)], [], Φ μ)) : wpE (xT 178) ev Q (373, [(2, .int x2), (0, .ref m), (1, .int x1)], [], Φ μ) := by
  refine p_goto rfl ?_
  exact p_loc (ls' := [(0, .ref m), (1, .int x1), (2, .int x2)]) rfl h
theorem B179_0 {ev : xV} {Q : Option Value → xM → Prop} {m : Nat} {Φ : (Nat → Nat → Int32) → xM} (hΦ : MLaw m Φ) {μ : Nat → Nat → Int32} {x1 : Int32} (h : (((μ 0 47) = 1) → Q (some (.int 1)) (Φ μ)) ∧ (¬ ((μ 0 47) = 1) → (((μ 0 47) = 2) → Q (some (.int 1)) (Φ μ)) ∧ (¬ ((μ 0 47) = 2) → (((μ 0 54) = 5) → Q (some (.int 0)) (Φ μ)) ∧ (¬ ((μ 0 54) = 5) → (∃ r μ', ev 177 [.ref m, .int 4] (Φ μ) (some (.int r)) (Φ μ') ∧ wpE (xT 179) ev Q (33, [(0, .ref m), (1, .int x1)], [.int r], Φ μ')))))) : wpE (xT 179) ev Q (0, [(0, .ref m), (1, .int x1)], [], Φ μ) := by
  refine p_ald rfl rfl ?_
  refine pm_geti hΦ (v := μ 0 47) rfl rfl ?_
  refine p_push (v := .int 1) rfl ?_
  refine p_icmp rfl (fun c => ?_) (fun c => ?_)
  · have h := h.1 c
    refine p_loc (ls' := []) rfl ?_
    refine p_push (v := .int 1) rfl ?_
    exact p_ri rfl (by decide) h
  · have h := h.2 c
    refine p_ald rfl rfl ?_
    refine pm_geti hΦ (v := μ 0 47) rfl rfl ?_
    refine p_push (v := .int 2) rfl ?_
    refine p_icmp rfl (fun c => ?_) (fun c => ?_)
    · have h := h.1 c
      refine p_loc (ls' := []) rfl ?_
      refine p_push (v := .int 1) rfl ?_
      exact p_ri rfl (by decide) h
    · have h := h.2 c
      refine p_ald rfl rfl ?_
      refine pm_geti hΦ (v := μ 0 54) rfl rfl ?_
      refine p_push (v := .int 5) rfl ?_
      refine p_icmp rfl (fun c => ?_) (fun c => ?_)
      · have h := h.1 c
        refine p_push (v := .int 0) rfl ?_
        exact p_ri rfl (by decide) h
      · have h := h.2 c
        refine p_ald rfl rfl ?_
        refine p_push (v := .int 4) rfl ?_
        obtain ⟨r, μ', he, h⟩ := h
        exact p_callV rfl (Nat.le_of_ble_eq_true rfl) rfl rfl (Nat.le_of_ble_eq_true rfl) (ml_kd hΦ) he h
theorem B179_33 {ev : xV} {Q : Option Value → xM → Prop} {m : Nat} {Φ : (Nat → Nat → Int32) → xM} (hΦ : MLaw m Φ) {μ : Nat → Nat → Int32} {x1 s0 : Int32} (h : ((s0 = 0) → (∃ r μ', ev 180 [.ref m, .int 40] (Φ μ) (some (.int r)) (Φ μ') ∧ wpE (xT 179) ev Q (44, [(0, .ref m), (1, .int x1)], [.int r], Φ μ'))) ∧ (¬ (s0 = 0) → ((x1 = 0 ∨ x1 = 1) ∧ Q (some (.int x1)) (Φ μ)))) : wpE (xT 179) ev Q (33, [(0, .ref m), (1, .int x1)], [.int s0], Φ μ) := by
  refine p_if rfl (fun c => ?_) (fun c => ?_)
  · have h := h.1 c
    refine p_ald rfl rfl ?_
    refine p_push (v := .int 40) rfl ?_
    obtain ⟨r, μ', he, h⟩ := h
    exact p_callV rfl (Nat.le_of_ble_eq_true rfl) rfl rfl (Nat.le_of_ble_eq_true rfl) (ml_kd hΦ) he h
  · have h := h.2 c
    refine p_ild rfl rfl ?_
    exact p_ri rfl h.1 h.2
theorem B179_44 {ev : xV} {Q : Option Value → xM → Prop} {m : Nat} {Φ : (Nat → Nat → Int32) → xM} (hΦ : MLaw m Φ) {μ : Nat → Nat → Int32} {x1 s0 : Int32} (h : ((s0 = 0) → (∃ r μ', ev 180 [.ref m, .int 45] (Φ μ) (some (.int r)) (Φ μ') ∧ wpE (xT 179) ev Q (53, [(0, .ref m), (1, .int x1)], [.int r], Φ μ'))) ∧ (¬ (s0 = 0) → Q (some (.int 1)) (Φ μ))) : wpE (xT 179) ev Q (44, [(0, .ref m), (1, .int x1)], [.int s0], Φ μ) := by
  refine p_if rfl (fun c => ?_) (fun c => ?_)
  · have h := h.1 c
    refine p_ald rfl rfl ?_
    refine p_push (v := .int 45) rfl ?_
    obtain ⟨r, μ', he, h⟩ := h
    exact p_callV rfl (Nat.le_of_ble_eq_true rfl) rfl rfl (Nat.le_of_ble_eq_true rfl) (ml_kd hΦ) he h
  · have h := h.2 c
    refine p_loc (ls' := []) rfl ?_
    refine p_push (v := .int 1) rfl ?_
    refine p_goto rfl ?_
    exact p_ri rfl (by decide) h
theorem B179_53 {ev : xV} {Q : Option Value → xM → Prop} {m : Nat} {Φ : (Nat → Nat → Int32) → xM} (hΦ : MLaw m Φ) {μ : Nat → Nat → Int32} {x1 s0 : Int32} (h : ((s0 = 0) → Q (some (.int 0)) (Φ μ)) ∧ (¬ (s0 = 0) → Q (some (.int 1)) (Φ μ))) : wpE (xT 179) ev Q (53, [(0, .ref m), (1, .int x1)], [.int s0], Φ μ) := by
  refine p_if rfl (fun c => ?_) (fun c => ?_)
  · have h := h.1 c
    refine p_push (v := .int 0) rfl ?_
    refine p_loc (ls' := []) rfl ?_
    exact p_ri rfl (by decide) h
  · have h := h.2 c
    refine p_loc (ls' := []) rfl ?_
    refine p_push (v := .int 1) rfl ?_
    refine p_goto rfl ?_
    exact p_ri rfl (by decide) h
theorem B180_0 {ev : xV} {Q : Option Value → xM → Prop} {m : Nat} {Φ : (Nat → Nat → Int32) → xM} (hΦ : MLaw m Φ) {μ : Nat → Nat → Int32} {x1 : Int32} (h : (((μ 0 47) = 4) → (((μ 0 48) = x1) → Q (some (.int 1)) (Φ μ)) ∧ (¬ ((μ 0 48) = x1) → Q (some (.int 0)) (Φ μ))) ∧ (¬ ((μ 0 47) = 4) → Q (some (.int 0)) (Φ μ))) : wpE (xT 180) ev Q (0, [(0, .ref m), (1, .int x1)], [], Φ μ) := by
  refine p_ald rfl rfl ?_
  refine pm_geti hΦ (v := μ 0 47) rfl rfl ?_
  refine p_push (v := .int 4) rfl ?_
  refine p_icmp rfl (fun c => ?_) (fun c => ?_)
  · have h := h.1 c
    refine p_ald rfl rfl ?_
    refine pm_geti hΦ (v := μ 0 48) rfl rfl ?_
    refine p_ild rfl rfl ?_
    refine p_icmp rfl (fun c => ?_) (fun c => ?_)
    · have h := h.1 c
      refine p_push (v := .int 1) rfl ?_
      refine p_goto rfl ?_
      refine p_loc (ls' := []) rfl ?_
      exact p_ri rfl (by decide) h
    · have h := h.2 c
      refine p_loc (ls' := []) rfl ?_
      refine p_push (v := .int 0) rfl ?_
      exact p_ri rfl (by decide) h
  · have h := h.2 c
    refine p_loc (ls' := []) rfl ?_
    refine p_push (v := .int 0) rfl ?_
    exact p_ri rfl (by decide) h
theorem B181_0 {ev : xV} {Q : Option Value → xM → Prop} {m : Nat} {Φ : (Nat → Nat → Int32) → xM} (hΦ : MLaw m Φ) {μ : Nat → Nat → Int32} {x1 : Int32} (h : vp_in (μ 0 52) 161 ∧ ((x1 = (-3)) → Q none (Φ (U (U (U μ 35 ((μ 0 52).toNatClampNeg) x1) 0 52 ((μ 0 52) + 1)) 0 54 ((μ 0 54) + 1)))) ∧ (¬ (x1 = (-3)) → ((x1 = (-9)) → Q none (Φ (U (U (U μ 35 ((μ 0 52).toNatClampNeg) x1) 0 52 ((μ 0 52) + 1)) 0 54 ((μ 0 54) + 1)))) ∧ (¬ (x1 = (-9)) → ((x1 = (-10)) → Q none (Φ (U (U (U μ 35 ((μ 0 52).toNatClampNeg) x1) 0 52 ((μ 0 52) + 1)) 0 54 ((μ 0 54) + 1)))) ∧ (¬ (x1 = (-10)) → Q none (Φ (U (U μ 35 ((μ 0 52).toNatClampNeg) x1) 0 52 ((μ 0 52) + 1))))))) : wpE (xT 181) ev Q (0, [(0, .ref m), (1, .int x1)], [], Φ μ) := by
  refine p_ald rfl rfl ?_
  refine pm_getp hΦ rfl (c := 35) rfl (by decide) ?_
  refine p_ald rfl rfl ?_
  refine pm_geti hΦ (v := μ 0 52) rfl rfl ?_
  refine p_ild rfl rfl ?_
  obtain ⟨g, h⟩ := h
  refine pm_asti hΦ (c := 35) (n := 161) rfl (by decide) rfl rfl g ?_
  refine p_ald rfl rfl ?_
  refine p_dup rfl rfl ?_
  refine pm_geti hΦ (v := μ 0 52) rfl rfl ?_
  refine p_push (v := .int 1) rfl ?_
  refine p_bin rfl ?_
  refine pm_puti hΦ rfl ?_
  refine p_ild rfl rfl ?_
  refine p_push (v := .int (-3)) rfl ?_
  refine p_icmp rfl (fun c => ?_) (fun c => ?_)
  · have h := h.1 c
    refine p_loc (ls' := [(0, .ref m)]) rfl ?_
    refine p_ald rfl rfl ?_
    refine p_dup rfl rfl ?_
    refine pm_geti hΦ (v := μ 0 54) rfl rfl ?_
    refine p_push (v := .int 1) rfl ?_
    refine p_bin rfl ?_
    refine pm_puti hΦ rfl ?_
    refine p_loc (ls' := []) rfl ?_
    exact p_rv rfl h
  · have h := h.2 c
    refine p_ild rfl rfl ?_
    refine p_push (v := .int (-9)) rfl ?_
    refine p_icmp rfl (fun c => ?_) (fun c => ?_)
    · have h := h.1 c
      refine p_loc (ls' := [(0, .ref m)]) rfl ?_
      refine p_ald rfl rfl ?_
      refine p_dup rfl rfl ?_
      refine pm_geti hΦ (v := μ 0 54) rfl rfl ?_
      refine p_push (v := .int 1) rfl ?_
      refine p_bin rfl ?_
      refine pm_puti hΦ rfl ?_
      refine p_loc (ls' := []) rfl ?_
      exact p_rv rfl h
    · have h := h.2 c
      refine p_ild rfl rfl ?_
      refine p_push (v := .int (-10)) rfl ?_
      refine p_icmp rfl (fun c => ?_) (fun c => ?_)
      · have h := h.1 c
        refine p_loc (ls' := [(0, .ref m)]) rfl ?_
        refine p_ald rfl rfl ?_
        refine p_dup rfl rfl ?_
        refine pm_geti hΦ (v := μ 0 54) rfl rfl ?_
        refine p_push (v := .int 1) rfl ?_
        refine p_bin rfl ?_
        refine pm_puti hΦ rfl ?_
        refine p_loc (ls' := []) rfl ?_
        exact p_rv rfl h
      · have h := h.2 c
        refine p_loc (ls' := []) rfl ?_
        exact p_rv rfl h
theorem B182_0 {ev : xV} {Q : Option Value → xM → Prop} {m : Nat} {Φ : (Nat → Nat → Int32) → xM} (hΦ : MLaw m Φ) {μ : Nat → Nat → Int32} {x1 : Int32} (h : vp_in (μ 0 55) 12 ∧ vp_in ((160 * (μ 0 55)) + (μ 33 (μ 0 55).toNatClampNeg)) 1920 ∧ vp_in (μ 0 55) 12 ∧ vp_in (μ 0 55) 12 ∧ Q none (Φ (U (U μ 34 (((160 * (μ 0 55)) + (μ 33 (μ 0 55).toNatClampNeg)).toNatClampNeg) x1) 33 ((μ 0 55).toNatClampNeg) (((U μ 34 (((160 * (μ 0 55)) + (μ 33 (μ 0 55).toNatClampNeg)).toNatClampNeg) x1) 33 (μ 0 55).toNatClampNeg) + 1)))) : wpE (xT 182) ev Q (0, [(0, .ref m), (1, .int x1)], [], Φ μ) := by
  refine p_ald rfl rfl ?_
  refine pm_getp hΦ rfl (c := 34) rfl (by decide) ?_
  refine p_push (v := .int 160) rfl ?_
  refine p_ald rfl rfl ?_
  refine pm_geti hΦ (v := μ 0 55) rfl rfl ?_
  refine p_bin rfl ?_
  refine p_ald rfl rfl ?_
  refine pm_getp hΦ rfl (c := 33) rfl (by decide) ?_
  refine p_ald rfl rfl ?_
  refine pm_geti hΦ (v := μ 0 55) rfl rfl ?_
  obtain ⟨g, h⟩ := h
  refine pm_aldi hΦ (c := 33) (n := 12) rfl (by decide) rfl rfl g rfl ?_
  refine p_bin rfl ?_
  refine p_ild rfl rfl ?_
  obtain ⟨g, h⟩ := h
  refine pm_asti hΦ (c := 34) (n := 1920) rfl (by decide) rfl rfl g ?_
  refine p_ald rfl rfl ?_
  refine pm_getp hΦ rfl (c := 33) rfl (by decide) ?_
  refine p_ald rfl rfl ?_
  refine pm_geti hΦ (v := μ 0 55) rfl rfl ?_
  refine p_dup2 rfl rfl rfl ?_
  obtain ⟨g, h⟩ := h
  refine pm_aldi hΦ (c := 33) (n := 12) rfl (by decide) rfl rfl g rfl ?_
  refine p_push (v := .int 1) rfl ?_
  refine p_bin rfl ?_
  obtain ⟨g, h⟩ := h
  refine pm_asti hΦ (c := 33) (n := 12) rfl (by decide) rfl rfl g ?_
  exact p_rv rfl h
theorem B183_0 {ev : xV} {Q : Option Value → xM → Prop} {m : Nat} {Φ : (Nat → Nat → Int32) → xM} (hΦ : MLaw m Φ) {μ : Nat → Nat → Int32} {x1 : Int32} (h : (((μ 0 52) ≤ 0) → Q none (Φ μ)) ∧ (¬ ((μ 0 52) ≤ 0) → vp_in ((μ 0 52) - 1) 161 ∧ (∃ r μ', ev 184 [.ref m, .int (μ 35 ((μ 0 52) - 1).toNatClampNeg)] (Φ μ) (some (.int r)) (Φ μ') ∧ wpE (xT 183) ev Q (22, [(0, .ref m), (1, .int x1)], [.int r], Φ μ')))) : wpE (xT 183) ev Q (0, [(0, .ref m), (1, .int x1)], [], Φ μ) := by
  refine p_ald rfl rfl ?_
  refine pm_geti hΦ (v := μ 0 52) rfl rfl ?_
  refine p_if rfl (fun c => ?_) (fun c => ?_)
  · have h := h.1 c
    refine p_loc (ls' := []) rfl ?_
    exact p_rv rfl h
  · have h := h.2 c
    refine p_ald rfl rfl ?_
    refine p_ald rfl rfl ?_
    refine pm_getp hΦ rfl (c := 35) rfl (by decide) ?_
    refine p_ald rfl rfl ?_
    refine pm_geti hΦ (v := μ 0 52) rfl rfl ?_
    refine p_push (v := .int 1) rfl ?_
    refine p_bin rfl ?_
    obtain ⟨g, h⟩ := h
    refine pm_aldi hΦ (c := 35) (n := 161) rfl (by decide) rfl rfl g rfl ?_
    obtain ⟨r, μ', he, h⟩ := h
    exact p_callV rfl (Nat.le_of_ble_eq_true rfl) rfl rfl (Nat.le_of_ble_eq_true rfl) (ml_kd hΦ) he h
theorem B183_22 {ev : xV} {Q : Option Value → xM → Prop} {m : Nat} {Φ : (Nat → Nat → Int32) → xM} (hΦ : MLaw m Φ) {μ : Nat → Nat → Int32} {x1 s0 : Int32} (h : ((s0 < x1) → Q none (Φ μ)) ∧ (¬ (s0 < x1) → vp_in ((μ 0 52) - 1) 161 ∧ (∃ μ', ev 182 [.ref m, .int ((U μ 0 52 ((μ 0 52) - 1)) 35 ((μ 0 52) - 1).toNatClampNeg)] (Φ (U μ 0 52 ((μ 0 52) - 1))) none (Φ μ') ∧ wpE (xT 183) ev Q (49, [(0, .ref m), (1, .int x1)], [], Φ μ')))) : wpE (xT 183) ev Q (22, [(0, .ref m), (1, .int x1)], [.int s0], Φ μ) := by
  refine p_ild rfl rfl ?_
  refine p_icmp rfl (fun c => ?_) (fun c => ?_)
  · have h := h.1 c
    refine p_loc (ls' := []) rfl ?_
    exact p_rv rfl h
  · have h := h.2 c
    refine p_ald rfl rfl ?_
    refine p_dup rfl rfl ?_
    refine pm_geti hΦ (v := μ 0 52) rfl rfl ?_
    refine p_push (v := .int 1) rfl ?_
    refine p_bin rfl ?_
    refine pm_puti hΦ rfl ?_
    refine p_ald rfl rfl ?_
    refine p_ald rfl rfl ?_
    refine pm_getp hΦ rfl (c := 35) rfl (by decide) ?_
    refine p_ald rfl rfl ?_
    refine pm_geti hΦ (v := (μ 0 52) - 1) rfl rfl ?_
    obtain ⟨g, h⟩ := h
    refine pm_aldi hΦ (c := 35) (n := 161) rfl (by decide) rfl rfl g rfl ?_
    obtain ⟨μ', he, h⟩ := h
    exact p_callV rfl (Nat.le_of_ble_eq_true rfl) rfl rfl (Nat.le_of_ble_eq_true rfl) (ml_kd hΦ) he h
theorem B183_49 {ev : xV} {Q : Option Value → xM → Prop} {m : Nat} {Φ : (Nat → Nat → Int32) → xM} (hΦ : MLaw m Φ) {μ : Nat → Nat → Int32} {x1 : Int32} (h : vp_in (μ 0 52) 161 ∧ (((μ 35 (μ 0 52).toNatClampNeg) = (-3)) → wpE (xT 183) ev Q (0, [(0, .ref m), (1, .int x1)], [], Φ (U μ 0 54 ((μ 0 54) - 1)))) ∧ (¬ ((μ 35 (μ 0 52).toNatClampNeg) = (-3)) → vp_in (μ 0 52) 161 ∧ (((μ 35 (μ 0 52).toNatClampNeg) = (-9)) → wpE (xT 183) ev Q (0, [(0, .ref m), (1, .int x1)], [], Φ (U μ 0 54 ((μ 0 54) - 1)))) ∧ (¬ ((μ 35 (μ 0 52).toNatClampNeg) = (-9)) → wpE (xT 183) ev Q (0, [(0, .ref m), (1, .int x1)], [], Φ μ)))) : wpE (xT 183) ev Q (49, [(0, .ref m), (1, .int x1)], [], Φ μ) := by
  refine p_ald rfl rfl ?_
  refine pm_getp hΦ rfl (c := 35) rfl (by decide) ?_
  refine p_ald rfl rfl ?_
  refine pm_geti hΦ (v := μ 0 52) rfl rfl ?_
  obtain ⟨g, h⟩ := h
  refine pm_aldi hΦ (c := 35) (n := 161) rfl (by decide) rfl rfl g rfl ?_
  refine p_push (v := .int (-3)) rfl ?_
  refine p_icmp rfl (fun c => ?_) (fun c => ?_)
  · have h := h.1 c
    refine p_ald rfl rfl ?_
    refine p_dup rfl rfl ?_
    refine pm_geti hΦ (v := μ 0 54) rfl rfl ?_
    refine p_push (v := .int 1) rfl ?_
    refine p_bin rfl ?_
    refine pm_puti hΦ rfl ?_
    refine p_goto rfl ?_
    exact h
  · have h := h.2 c
    refine p_ald rfl rfl ?_
    refine pm_getp hΦ rfl (c := 35) rfl (by decide) ?_
    refine p_ald rfl rfl ?_
    refine pm_geti hΦ (v := μ 0 52) rfl rfl ?_
    obtain ⟨g, h⟩ := h
    refine pm_aldi hΦ (c := 35) (n := 161) rfl (by decide) rfl rfl g rfl ?_
    refine p_push (v := .int (-9)) rfl ?_
    refine p_icmp rfl (fun c => ?_) (fun c => ?_)
    · have h := h.1 c
      refine p_ald rfl rfl ?_
      refine p_dup rfl rfl ?_
      refine pm_geti hΦ (v := μ 0 54) rfl rfl ?_
      refine p_push (v := .int 1) rfl ?_
      refine p_bin rfl ?_
      refine pm_puti hΦ rfl ?_
      refine p_goto rfl ?_
      exact h
    · have h := h.2 c
      exact h
theorem B184_0 {ev : xV} {Q : Option Value → xM → Prop} {m : Nat} {Φ : (Nat → Nat → Int32) → xM} (hΦ : MLaw m Φ) {μ : Nat → Nat → Int32} {x1 : Int32} (h : ((x1 = (-1)) → Q (some (.int 1)) (Φ μ)) ∧ (¬ (x1 = (-1)) → ((x1 = (-2)) → Q (some (.int 2)) (Φ μ)) ∧ (¬ (x1 = (-2)) → ((x1 = (-3)) → Q (some (.int 3)) (Φ μ)) ∧ (¬ (x1 = (-3)) → ((x1 = (-4)) → Q (some (.int 4)) (Φ μ)) ∧ (¬ (x1 = (-4)) → ((x1 = (-5)) → Q (some (.int 4)) (Φ μ)) ∧ (¬ (x1 = (-5)) → ((x1 = (-6)) → Q (some (.int 5)) (Φ μ)) ∧ (¬ (x1 = (-6)) → ((x1 = (-7)) → Q (some (.int 5)) (Φ μ)) ∧ (¬ (x1 = (-7)) → ((x1 = (-8)) → Q (some (.int 6)) (Φ μ)) ∧ (¬ (x1 = (-8)) → ((x1 = (-9)) → Q (some (.int 7)) (Φ μ)) ∧ (¬ (x1 = (-9)) → Q (some (.int 0)) (Φ μ))))))))))) : wpE (xT 184) ev Q (0, [(0, .ref m), (1, .int x1)], [], Φ μ) := by
  refine p_ild rfl rfl ?_
  refine p_push (v := .int (-1)) rfl ?_
  refine p_icmp rfl (fun c => ?_) (fun c => ?_)
  · have h := h.1 c
    refine p_push (v := .int 1) rfl ?_
    refine p_goto rfl ?_
    refine p_loc (ls' := []) rfl ?_
    exact p_ri rfl trivial h
  · have h := h.2 c
    refine p_ild rfl rfl ?_
    refine p_push (v := .int (-2)) rfl ?_
    refine p_icmp rfl (fun c => ?_) (fun c => ?_)
    · have h := h.1 c
      refine p_push (v := .int 2) rfl ?_
      refine p_goto rfl ?_
      refine p_loc (ls' := []) rfl ?_
      exact p_ri rfl trivial h
    · have h := h.2 c
      refine p_ild rfl rfl ?_
      refine p_push (v := .int (-3)) rfl ?_
      refine p_icmp rfl (fun c => ?_) (fun c => ?_)
      · have h := h.1 c
        refine p_push (v := .int 3) rfl ?_
        refine p_goto rfl ?_
        refine p_loc (ls' := []) rfl ?_
        exact p_ri rfl trivial h
      · have h := h.2 c
        refine p_ild rfl rfl ?_
        refine p_push (v := .int (-4)) rfl ?_
        refine p_icmp rfl (fun c => ?_) (fun c => ?_)
        · have h := h.1 c
          refine p_loc (ls' := []) rfl ?_
          refine p_push (v := .int 4) rfl ?_
          refine p_goto rfl ?_
          exact p_ri rfl trivial h
        · have h := h.2 c
          refine p_ild rfl rfl ?_
          refine p_push (v := .int (-5)) rfl ?_
          refine p_icmp rfl (fun c => ?_) (fun c => ?_)
          · have h := h.1 c
            refine p_loc (ls' := []) rfl ?_
            refine p_push (v := .int 4) rfl ?_
            refine p_goto rfl ?_
            exact p_ri rfl trivial h
          · have h := h.2 c
            refine p_ild rfl rfl ?_
            refine p_push (v := .int (-6)) rfl ?_
            refine p_icmp rfl (fun c => ?_) (fun c => ?_)
            · have h := h.1 c
              refine p_loc (ls' := []) rfl ?_
              refine p_push (v := .int 5) rfl ?_
              refine p_goto rfl ?_
              exact p_ri rfl trivial h
            · have h := h.2 c
              refine p_ild rfl rfl ?_
              refine p_push (v := .int (-7)) rfl ?_
              refine p_icmp rfl (fun c => ?_) (fun c => ?_)
              · have h := h.1 c
                refine p_loc (ls' := []) rfl ?_
                refine p_push (v := .int 5) rfl ?_
                refine p_goto rfl ?_
                exact p_ri rfl trivial h
              · have h := h.2 c
                refine p_ild rfl rfl ?_
                refine p_push (v := .int (-8)) rfl ?_
                refine p_icmp rfl (fun c => ?_) (fun c => ?_)
                · have h := h.1 c
                  refine p_push (v := .int 6) rfl ?_
                  refine p_goto rfl ?_
                  refine p_loc (ls' := []) rfl ?_
                  exact p_ri rfl trivial h
                · have h := h.2 c
                  refine p_ild rfl rfl ?_
                  refine p_push (v := .int (-9)) rfl ?_
                  refine p_icmp rfl (fun c => ?_) (fun c => ?_)
                  · have h := h.1 c
                    refine p_push (v := .int 7) rfl ?_
                    refine p_goto rfl ?_
                    refine p_loc (ls' := []) rfl ?_
                    exact p_ri rfl trivial h
                  · have h := h.2 c
                    refine p_push (v := .int 0) rfl ?_
                    refine p_loc (ls' := []) rfl ?_
                    exact p_ri rfl trivial h
