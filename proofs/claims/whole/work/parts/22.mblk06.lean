theorem B194_0 {ev : xV} {Q : Option Value → xM → Prop} {m : Nat} {Φ : (Nat → Nat → Int32) → xM} (hΦ : MLaw m Φ) {μ : Nat → Nat → Int32} {x1 : Int32} (h : (∃ r μ', ev 129 [.ref m, .int x1, .int 0, .int 7] (Φ μ) (some (.int r)) (Φ μ') ∧ wpE (xT 194) ev Q (8, [(0, .ref m), (1, .int x1)], [.int r], Φ μ'))) : wpE (xT 194) ev Q (0, [(0, .ref m), (1, .int x1)], [], Φ μ) := by
  refine p_ald rfl rfl ?_
  refine p_ild rfl rfl ?_
  refine p_push (v := .int 0) rfl ?_
  refine p_push (v := .int 7) rfl ?_
  obtain ⟨r, μ', he, h⟩ := h
  exact p_callV rfl (Nat.le_of_ble_eq_true rfl) rfl rfl (Nat.le_of_ble_eq_true rfl) (ml_kd hΦ) he h
theorem B194_8 {ev : xV} {Q : Option Value → xM → Prop} {m : Nat} {Φ : (Nat → Nat → Int32) → xM} (hΦ : MLaw m Φ) {μ : Nat → Nat → Int32} {x1 s0 : Int32} (h : ((s0 = 0) → Q (some (.int ((-1)))) (Φ μ)) ∧ (¬ (s0 = 0) → vp_in x1 8 ∧ Q (some (.int (μ 41 x1.toNatClampNeg))) (Φ μ))) : wpE (xT 194) ev Q (8, [(0, .ref m), (1, .int x1)], [.int s0], Φ μ) := by
  refine p_if rfl (fun c => ?_) (fun c => ?_)
  · have h := h.1 c
    refine p_push (v := .int (-1)) rfl ?_
    refine p_loc (ls' := []) rfl ?_
    exact p_ri rfl trivial h
  · have h := h.2 c
    refine p_ald rfl rfl ?_
    refine pm_getp hΦ rfl (c := 41) rfl (by decide) ?_
    refine p_ild rfl rfl ?_
    obtain ⟨g, h⟩ := h
    refine pm_aldi hΦ (c := 41) (n := 8) rfl (by decide) rfl rfl g rfl ?_
    refine p_goto rfl ?_
    refine p_loc (ls' := []) rfl ?_
    exact p_ri rfl trivial h
theorem B195_0 {ev : xV} {Q : Option Value → xM → Prop} {m : Nat} {Φ : (Nat → Nat → Int32) → xM} (hΦ : MLaw m Φ) {μ : Nat → Nat → Int32} {x1 : Int32} (h : ((x1 = 0) → Q (some (.int (μ 0 2))) (Φ μ)) ∧ (¬ (x1 = 0) → ((x1 = 1) → Q (some (.int (μ 0 8))) (Φ μ)) ∧ (¬ (x1 = 1) → ((x1 = 2) → Q (some (.int (μ 0 13))) (Φ μ)) ∧ (¬ (x1 = 2) → ((x1 = 3) → Q (some (.int (μ 0 42))) (Φ μ)) ∧ (¬ (x1 = 3) → ((x1 = 4) → Q (some (.int (μ 0 1))) (Φ μ)) ∧ (¬ (x1 = 4) → ((x1 = 5) → Q (some (.int (μ 0 43))) (Φ μ)) ∧ (¬ (x1 = 5) → ((x1 = 6) → wpE (xT 195) ev Q (76, [(0, .ref m), (2, .int 0), (3, .int 0)], [], Φ μ)) ∧ (¬ (x1 = 6) → Q (some (.int ((-2)))) (Φ μ))))))))) : wpE (xT 195) ev Q (0, [(0, .ref m), (1, .int x1)], [], Φ μ) := by
  refine p_push (v := .int 0) rfl ?_
  refine p_ist (ls' := [(2, .int 0), (0, .ref m), (1, .int x1)]) rfl (by decide) rfl ?_
  refine p_ild rfl rfl ?_
  refine p_sw rfl ?_
  refine ⟨fun c => ?_, fun c => ?_⟩
  · have h := h.1 c
    refine p_ald rfl rfl ?_
    refine pm_geti hΦ (v := μ 0 2) rfl rfl ?_
    exact p_ri rfl trivial h
  · have h := h.2 c
    refine ⟨fun c => ?_, fun c => ?_⟩
    · have h := h.1 c
      refine p_ald rfl rfl ?_
      refine pm_geti hΦ (v := μ 0 8) rfl rfl ?_
      exact p_ri rfl trivial h
    · have h := h.2 c
      refine ⟨fun c => ?_, fun c => ?_⟩
      · have h := h.1 c
        refine p_ald rfl rfl ?_
        refine pm_geti hΦ (v := μ 0 13) rfl rfl ?_
        exact p_ri rfl trivial h
      · have h := h.2 c
        refine ⟨fun c => ?_, fun c => ?_⟩
        · have h := h.1 c
          refine p_ald rfl rfl ?_
          refine pm_geti hΦ (v := μ 0 42) rfl rfl ?_
          exact p_ri rfl trivial h
        · have h := h.2 c
          refine ⟨fun c => ?_, fun c => ?_⟩
          · have h := h.1 c
            refine p_ald rfl rfl ?_
            refine pm_geti hΦ (v := μ 0 1) rfl rfl ?_
            exact p_ri rfl trivial h
          · have h := h.2 c
            refine ⟨fun c => ?_, fun c => ?_⟩
            · have h := h.1 c
              refine p_ald rfl rfl ?_
              refine pm_geti hΦ (v := μ 0 43) rfl rfl ?_
              exact p_ri rfl trivial h
            · have h := h.2 c
              refine ⟨fun c => ?_, fun c => ?_⟩
              · have h := h.1 c
                refine p_push (v := .int 0) rfl ?_
                refine p_ist (ls' := [(3, .int 0), (2, .int 0), (0, .ref m), (1, .int x1)]) rfl (by decide) rfl ?_
                exact p_loc (ls' := [(0, .ref m), (2, .int 0), (3, .int 0)]) rfl h
              · have h := h.2 c
                refine p_push (v := .int (-2)) rfl ?_
                exact p_ri rfl trivial h
theorem B195_76 {ev : xV} {Q : Option Value → xM → Prop} {m : Nat} {Φ : (Nat → Nat → Int32) → xM} (hΦ : MLaw m Φ) {μ : Nat → Nat → Int32} {x2 x3 : Int32} (h : (((μ 0 13) ≤ x3) → Q (some (.int x2)) (Φ μ)) ∧ (¬ ((μ 0 13) ≤ x3) → vp_in x3 8 ∧ (((μ 20 x3.toNatClampNeg) < 0) → wpE (xT 195) ev Q (76, [(0, .ref m), (2, .int (x2 + 0)), (3, .int (x3 + 1))], [], Φ μ)) ∧ (¬ ((μ 20 x3.toNatClampNeg) < 0) → wpE (xT 195) ev Q (76, [(0, .ref m), (2, .int (x2 + 1)), (3, .int (x3 + 1))], [], Φ μ)))) : wpE (xT 195) ev Q (76, [(0, .ref m), (2, .int x2), (3, .int x3)], [], Φ μ) := by
  refine p_ild rfl rfl ?_
  refine p_ald rfl rfl ?_
  refine pm_geti hΦ (v := μ 0 13) rfl rfl ?_
  refine p_icmp rfl (fun c => ?_) (fun c => ?_)
  · have h := h.1 c
    refine p_ild rfl rfl ?_
    exact p_ri rfl trivial h
  · have h := h.2 c
    refine p_ild rfl rfl ?_
    refine p_ald rfl rfl ?_
    refine pm_getp hΦ rfl (c := 20) rfl (by decide) ?_
    refine p_ild rfl rfl ?_
    obtain ⟨g, h⟩ := h
    refine pm_aldi hΦ (c := 20) (n := 8) rfl (by decide) rfl rfl g rfl ?_
    refine p_if rfl (fun c => ?_) (fun c => ?_)
    · have h := h.1 c
      refine p_push (v := .int 0) rfl ?_
      refine p_loc (ls' := [(0, .ref m), (3, .int x3)]) rfl ?_
      refine p_bin rfl ?_
      refine p_ist (ls' := [(2, .int (x2 + 0)), (0, .ref m), (3, .int x3)]) rfl (by decide) rfl ?_
      refine p_iinc (y := x3 + 1) (ls' := [(3, .int (x3 + 1)), (2, .int (x2 + 0)), (0, .ref m)]) rfl (by decide) rfl rfl rfl ?_
      refine p_goto rfl ?_
      exact p_loc (ls' := [(0, .ref m), (2, .int (x2 + 0)), (3, .int (x3 + 1))]) rfl h
    · have h := h.2 c
      refine p_push (v := .int 1) rfl ?_
      refine p_goto rfl ?_
      refine p_loc (ls' := [(0, .ref m), (3, .int x3)]) rfl ?_
      refine p_bin rfl ?_
      refine p_ist (ls' := [(2, .int (x2 + 1)), (0, .ref m), (3, .int x3)]) rfl (by decide) rfl ?_
      refine p_iinc (y := x3 + 1) (ls' := [(3, .int (x3 + 1)), (2, .int (x2 + 1)), (0, .ref m)]) rfl (by decide) rfl rfl rfl ?_
      refine p_goto rfl ?_
      exact p_loc (ls' := [(0, .ref m), (2, .int (x2 + 1)), (3, .int (x3 + 1))]) rfl h
theorem B196_0 {ev : xV} {Q : Option Value → xM → Prop} {m : Nat} {Φ : (Nat → Nat → Int32) → xM} (hΦ : MLaw m Φ) {μ : Nat → Nat → Int32} {x1 x2 x3 : Int32} (h : (∃ r μ', ev 197 [.ref m, .int x1] (Φ μ) (some (.int r)) (Φ μ') ∧ wpE (xT 196) ev Q (5, [(0, .ref m), (1, .int x1), (2, .int x2), (3, .int x3)], [.int r], Φ μ'))) : wpE (xT 196) ev Q (0, [(0, .ref m), (1, .int x1), (2, .int x2), (3, .int x3)], [], Φ μ) := by
  refine p_ald rfl rfl ?_
  refine p_ild rfl rfl ?_
  obtain ⟨r, μ', he, h⟩ := h
  exact p_callV rfl (Nat.le_of_ble_eq_true rfl) rfl rfl (Nat.le_of_ble_eq_true rfl) (ml_kd hΦ) he h
theorem B196_5 {ev : xV} {Q : Option Value → xM → Prop} {m : Nat} {Φ : (Nat → Nat → Int32) → xM} (hΦ : MLaw m Φ) {μ : Nat → Nat → Int32} {x1 x2 x3 s0 : Int32} (h : ((s0 = 0) → Q (some (.int ((-2)))) (Φ μ)) ∧ (¬ (s0 = 0) → (∃ r μ', ev 129 [.ref m, .int x2, .int ((-1)), .int 2] (Φ μ) (some (.int r)) (Φ μ') ∧ wpE (xT 196) ev Q (15, [(0, .ref m), (1, .int x1), (2, .int x2), (3, .int x3)], [.int r], Φ μ')))) : wpE (xT 196) ev Q (5, [(0, .ref m), (1, .int x1), (2, .int x2), (3, .int x3)], [.int s0], Φ μ) := by
  refine p_if rfl (fun c => ?_) (fun c => ?_)
  · have h := h.1 c
    refine p_loc (ls' := []) rfl ?_
    refine p_push (v := .int (-2)) rfl ?_
    exact p_ri rfl trivial h
  · have h := h.2 c
    refine p_ald rfl rfl ?_
    refine p_ild rfl rfl ?_
    refine p_push (v := .int (-1)) rfl ?_
    refine p_push (v := .int 2) rfl ?_
    obtain ⟨r, μ', he, h⟩ := h
    exact p_callV rfl (Nat.le_of_ble_eq_true rfl) rfl rfl (Nat.le_of_ble_eq_true rfl) (ml_kd hΦ) he h
theorem B196_15 {ev : xV} {Q : Option Value → xM → Prop} {m : Nat} {Φ : (Nat → Nat → Int32) → xM} (hΦ : MLaw m Φ) {μ : Nat → Nat → Int32} {x1 x2 x3 s0 : Int32} (h : ((s0 = 0) → Q (some (.int ((-2)))) (Φ μ)) ∧ (¬ (s0 = 0) → ((x2 < 0) → wpE (xT 196) ev Q (31, [(0, .ref m), (1, .int x1), (2, .int x2), (3, .int x3)], [], Φ μ)) ∧ (¬ (x2 < 0) → ((x3 ≤ 40) → wpE (xT 196) ev Q (31, [(0, .ref m), (1, .int x1), (2, .int x2), (3, .int x3)], [], Φ μ)) ∧ (¬ (x3 ≤ 40) → Q (some (.int ((-2)))) (Φ μ))))) : wpE (xT 196) ev Q (15, [(0, .ref m), (1, .int x1), (2, .int x2), (3, .int x3)], [.int s0], Φ μ) := by
  refine p_if rfl (fun c => ?_) (fun c => ?_)
  · have h := h.1 c
    refine p_loc (ls' := []) rfl ?_
    refine p_push (v := .int (-2)) rfl ?_
    exact p_ri rfl trivial h
  · have h := h.2 c
    refine p_ild rfl rfl ?_
    refine p_if rfl (fun c => ?_) (fun c => ?_)
    · have h := h.1 c
      exact h
    · have h := h.2 c
      refine p_ild rfl rfl ?_
      refine p_push (v := .int 40) rfl ?_
      refine p_icmp rfl (fun c => ?_) (fun c => ?_)
      · have h := h.1 c
        exact h
      · have h := h.2 c
        refine p_loc (ls' := []) rfl ?_
        refine p_push (v := .int (-2)) rfl ?_
        exact p_ri rfl trivial h
theorem B196_31 {ev : xV} {Q : Option Value → xM → Prop} {m : Nat} {Φ : (Nat → Nat → Int32) → xM} (hΦ : MLaw m Φ) {μ : Nat → Nat → Int32} {x1 x2 x3 : Int32} (h : ((x2 < 0) → wpE (xT 196) ev Q (42, [(0, .ref m), (1, .int x1), (2, .int x2), (3, .int x3)], [], Φ μ)) ∧ (¬ (x2 < 0) → ((0 ≤ x3) → wpE (xT 196) ev Q (42, [(0, .ref m), (1, .int x1), (2, .int x2), (3, .int x3)], [], Φ μ)) ∧ (¬ (0 ≤ x3) → Q (some (.int ((-14)))) (Φ μ)))) : wpE (xT 196) ev Q (31, [(0, .ref m), (1, .int x1), (2, .int x2), (3, .int x3)], [], Φ μ) := by
  refine p_ild rfl rfl ?_
  refine p_if rfl (fun c => ?_) (fun c => ?_)
  · have h := h.1 c
    exact h
  · have h := h.2 c
    refine p_ild rfl rfl ?_
    refine p_if rfl (fun c => ?_) (fun c => ?_)
    · have h := h.1 c
      exact h
    · have h := h.2 c
      refine p_push (v := .int (-14)) rfl ?_
      exact p_ri rfl trivial h
theorem B196_42 {ev : xV} {Q : Option Value → xM → Prop} {m : Nat} {Φ : (Nat → Nat → Int32) → xM} (hΦ : MLaw m Φ) {μ : Nat → Nat → Int32} {x1 x2 x3 : Int32} (h : vp_in x1 4 ∧ ((0 ≤ x2) → vp_in x1 4 ∧ wpE (xT 196) ev Q (67, [(0, .ref m), (1, .int x1), (4, .int 0)], [], Φ (U (U μ 43 x1.toNatClampNeg x2) 44 x1.toNatClampNeg x3))) ∧ (¬ (0 ≤ x2) → vp_in x1 4 ∧ wpE (xT 196) ev Q (67, [(0, .ref m), (1, .int x1), (4, .int 0)], [], Φ (U (U μ 43 x1.toNatClampNeg x2) 44 x1.toNatClampNeg 0)))) : wpE (xT 196) ev Q (42, [(0, .ref m), (1, .int x1), (2, .int x2), (3, .int x3)], [], Φ μ) := by
  refine p_ald rfl rfl ?_
  refine pm_getp hΦ rfl (c := 43) rfl (by decide) ?_
  refine p_ild rfl rfl ?_
  refine p_ild rfl rfl ?_
  obtain ⟨g, h⟩ := h
  refine pm_asti hΦ (c := 43) (n := 4) rfl (by decide) rfl rfl g ?_
  refine p_ald rfl rfl ?_
  refine pm_getp hΦ rfl (c := 44) rfl (by decide) ?_
  refine p_ild rfl rfl ?_
  refine p_ild rfl rfl ?_
  refine p_if rfl (fun c => ?_) (fun c => ?_)
  · have h := h.1 c
    refine p_ild rfl rfl ?_
    refine p_loc (ls' := [(0, .ref m), (1, .int x1)]) rfl ?_
    obtain ⟨g, h⟩ := h
    refine pm_asti hΦ (c := 44) (n := 4) rfl (by decide) rfl rfl g ?_
    refine p_push (v := .int 0) rfl ?_
    refine p_ist (ls' := [(4, .int 0), (0, .ref m), (1, .int x1)]) rfl (by decide) rfl ?_
    exact p_loc (ls' := [(0, .ref m), (1, .int x1), (4, .int 0)]) rfl h
  · have h := h.2 c
    refine p_push (v := .int 0) rfl ?_
    refine p_goto rfl ?_
    refine p_loc (ls' := [(0, .ref m), (1, .int x1)]) rfl ?_
    obtain ⟨g, h⟩ := h
    refine pm_asti hΦ (c := 44) (n := 4) rfl (by decide) rfl rfl g ?_
    refine p_push (v := .int 0) rfl ?_
    refine p_ist (ls' := [(4, .int 0), (0, .ref m), (1, .int x1)]) rfl (by decide) rfl ?_
    exact p_loc (ls' := [(0, .ref m), (1, .int x1), (4, .int 0)]) rfl h
theorem B196_67 {ev : xV} {Q : Option Value → xM → Prop} {m : Nat} {Φ : (Nat → Nat → Int32) → xM} (hΦ : MLaw m Φ) {μ : Nat → Nat → Int32} {x1 x4 : Int32} (h : ((40 ≤ x4) → Q (some (.int 1)) (Φ μ)) ∧ (¬ (40 ≤ x4) → vp_in ((40 * x1) + x4) 160 ∧ wpE (xT 196) ev Q (67, [(0, .ref m), (1, .int x1), (4, .int (x4 + 1))], [], Φ (U μ 45 (((40 * x1) + x4).toNatClampNeg) 0)))) : wpE (xT 196) ev Q (67, [(0, .ref m), (1, .int x1), (4, .int x4)], [], Φ μ) := by
  refine p_ild rfl rfl ?_
  refine p_push (v := .int 40) rfl ?_
  refine p_icmp rfl (fun c => ?_) (fun c => ?_)
  · have h := h.1 c
    refine p_push (v := .int 1) rfl ?_
    exact p_ri rfl trivial h
  · have h := h.2 c
    refine p_ald rfl rfl ?_
    refine pm_getp hΦ rfl (c := 45) rfl (by decide) ?_
    refine p_push (v := .int 40) rfl ?_
    refine p_ild rfl rfl ?_
    refine p_bin rfl ?_
    refine p_ild rfl rfl ?_
    refine p_bin rfl ?_
    refine p_push (v := .int 0) rfl ?_
    obtain ⟨g, h⟩ := h
    refine pm_asti hΦ (c := 45) (n := 160) rfl (by decide) rfl rfl g ?_
    refine p_iinc (y := x4 + 1) (ls' := [(4, .int (x4 + 1)), (0, .ref m), (1, .int x1)]) rfl (by decide) rfl rfl rfl ?_
    refine p_goto rfl ?_
    exact p_loc (ls' := [(0, .ref m), (1, .int x1), (4, .int (x4 + 1))]) rfl h
theorem B197_0 {ev : xV} {Q : Option Value → xM → Prop} {m : Nat} {Φ : (Nat → Nat → Int32) → xM} (hΦ : MLaw m Φ) {μ : Nat → Nat → Int32} {x1 : Int32} (h : (∃ r μ', ev 129 [.ref m, .int x1, .int 0, .int 3] (Φ μ) (some (.int r)) (Φ μ') ∧ wpE (xT 197) ev Q (7, [(0, .ref m), (1, .int x1)], [.int r], Φ μ'))) : wpE (xT 197) ev Q (0, [(0, .ref m), (1, .int x1)], [], Φ μ) := by
  refine p_ald rfl rfl ?_
  refine p_ild rfl rfl ?_
  refine p_push (v := .int 0) rfl ?_
  refine p_push (v := .int 3) rfl ?_
  obtain ⟨r, μ', he, h⟩ := h
  exact p_callV rfl (Nat.le_of_ble_eq_true rfl) rfl rfl (Nat.le_of_ble_eq_true rfl) (ml_kd hΦ) he h
theorem B197_7 {ev : xV} {Q : Option Value → xM → Prop} {m : Nat} {Φ : (Nat → Nat → Int32) → xM} (hΦ : MLaw m Φ) {μ : Nat → Nat → Int32} {x1 s0 : Int32} (h : ((s0 = 0 ∨ s0 = 1) ∧ Q (some (.int s0)) (Φ μ))) : wpE (xT 197) ev Q (7, [(0, .ref m), (1, .int x1)], [.int s0], Φ μ) := by
  exact p_ri rfl h.1 h.2
theorem B198_0 {ev : xV} {Q : Option Value → xM → Prop} {m : Nat} {Φ : (Nat → Nat → Int32) → xM} (hΦ : MLaw m Φ) {μ : Nat → Nat → Int32} {x1 x2 x3 : Int32} (h : (∃ r μ', ev 197 [.ref m, .int x1] (Φ μ) (some (.int r)) (Φ μ') ∧ wpE (xT 198) ev Q (5, [(0, .ref m), (1, .int x1), (2, .int x2), (3, .int x3)], [.int r], Φ μ'))) : wpE (xT 198) ev Q (0, [(0, .ref m), (1, .int x1), (2, .int x2), (3, .int x3)], [], Φ μ) := by
  refine p_ald rfl rfl ?_
  refine p_ild rfl rfl ?_
  obtain ⟨r, μ', he, h⟩ := h
  exact p_callV rfl (Nat.le_of_ble_eq_true rfl) rfl rfl (Nat.le_of_ble_eq_true rfl) (ml_kd hΦ) he h
theorem B198_5 {ev : xV} {Q : Option Value → xM → Prop} {m : Nat} {Φ : (Nat → Nat → Int32) → xM} (hΦ : MLaw m Φ) {μ : Nat → Nat → Int32} {x1 x2 x3 s0 : Int32} (h : ((s0 = 0) → Q (some (.int ((-2)))) (Φ μ)) ∧ (¬ (s0 = 0) → vp_in x1 4 ∧ ((0 ≤ (μ 43 x1.toNatClampNeg)) → vp_in x1 4 ∧ (∃ r μ', ev 129 [.ref m, .int x2, .int 0, .int ((μ 44 x1.toNatClampNeg) - 1)] (Φ μ) (some (.int r)) (Φ μ') ∧ wpE (xT 198) ev Q (37, [(0, .ref m), (1, .int x1), (2, .int x2), (3, .int x3)], [.int r], Φ μ'))) ∧ (¬ (0 ≤ (μ 43 x1.toNatClampNeg)) → Q (some (.int ((-11)))) (Φ μ)))) : wpE (xT 198) ev Q (5, [(0, .ref m), (1, .int x1), (2, .int x2), (3, .int x3)], [.int s0], Φ μ) := by
  refine p_if rfl (fun c => ?_) (fun c => ?_)
  · have h := h.1 c
    refine p_push (v := .int (-2)) rfl ?_
    exact p_ri rfl trivial h
  · have h := h.2 c
    refine p_ald rfl rfl ?_
    refine pm_getp hΦ rfl (c := 43) rfl (by decide) ?_
    refine p_ild rfl rfl ?_
    obtain ⟨g, h⟩ := h
    refine pm_aldi hΦ (c := 43) (n := 4) rfl (by decide) rfl rfl g rfl ?_
    refine p_if rfl (fun c => ?_) (fun c => ?_)
    · have h := h.1 c
      refine p_ald rfl rfl ?_
      refine p_ild rfl rfl ?_
      refine p_push (v := .int 0) rfl ?_
      refine p_ald rfl rfl ?_
      refine pm_getp hΦ rfl (c := 44) rfl (by decide) ?_
      refine p_ild rfl rfl ?_
      obtain ⟨g, h⟩ := h
      refine pm_aldi hΦ (c := 44) (n := 4) rfl (by decide) rfl rfl g rfl ?_
      refine p_push (v := .int 1) rfl ?_
      refine p_bin rfl ?_
      obtain ⟨r, μ', he, h⟩ := h
      exact p_callV rfl (Nat.le_of_ble_eq_true rfl) rfl rfl (Nat.le_of_ble_eq_true rfl) (ml_kd hΦ) he h
    · have h := h.2 c
      refine p_push (v := .int (-11)) rfl ?_
      exact p_ri rfl trivial h
theorem B198_37 {ev : xV} {Q : Option Value → xM → Prop} {m : Nat} {Φ : (Nat → Nat → Int32) → xM} (hΦ : MLaw m Φ) {μ : Nat → Nat → Int32} {x1 x2 x3 s0 : Int32} (h : ((s0 = 0) → Q (some (.int ((-12)))) (Φ μ)) ∧ (¬ (s0 = 0) → vp_in x1 4 ∧ (((μ 43 x1.toNatClampNeg) = 0) → vp_in ((40 * x1) + x2) 160 ∧ Q (some (.int 1)) (Φ (U μ 45 (((40 * x1) + x2).toNatClampNeg) x3.toInt8.toInt32))) ∧ (¬ ((μ 43 x1.toNatClampNeg) = 0) → vp_in x1 4 ∧ (((μ 43 x1.toNatClampNeg) = 1) → vp_in ((40 * x1) + x2) 160 ∧ Q (some (.int 1)) (Φ (U μ 45 (((40 * x1) + x2).toNatClampNeg) x3.toInt16.toInt32))) ∧ (¬ ((μ 43 x1.toNatClampNeg) = 1) → vp_in ((40 * x1) + x2) 160 ∧ Q (some (.int 1)) (Φ (U μ 45 (((40 * x1) + x2).toNatClampNeg) x3)))))) : wpE (xT 198) ev Q (37, [(0, .ref m), (1, .int x1), (2, .int x2), (3, .int x3)], [.int s0], Φ μ) := by
  refine p_if rfl (fun c => ?_) (fun c => ?_)
  · have h := h.1 c
    refine p_push (v := .int (-12)) rfl ?_
    exact p_ri rfl trivial h
  · have h := h.2 c
    refine p_ald rfl rfl ?_
    refine pm_getp hΦ rfl (c := 45) rfl (by decide) ?_
    refine p_push (v := .int 40) rfl ?_
    refine p_ild rfl rfl ?_
    refine p_bin rfl ?_
    refine p_ild rfl rfl ?_
    refine p_bin rfl ?_
    refine p_ald rfl rfl ?_
    refine pm_getp hΦ rfl (c := 43) rfl (by decide) ?_
    refine p_ild rfl rfl ?_
    obtain ⟨g, h⟩ := h
    refine pm_aldi hΦ (c := 43) (n := 4) rfl (by decide) rfl rfl g rfl ?_
    refine p_if rfl (fun c => ?_) (fun c => ?_)
    · have h := h.1 c
      refine p_ild rfl rfl ?_
      refine p_un rfl ?_
      refine p_goto rfl ?_
      refine p_loc (ls' := []) rfl ?_
      obtain ⟨g, h⟩ := h
      refine pm_asti hΦ (c := 45) (n := 160) rfl (by decide) rfl rfl g ?_
      refine p_push (v := .int 1) rfl ?_
      exact p_ri rfl trivial h
    · have h := h.2 c
      refine p_ald rfl rfl ?_
      refine pm_getp hΦ rfl (c := 43) rfl (by decide) ?_
      refine p_ild rfl rfl ?_
      obtain ⟨g, h⟩ := h
      refine pm_aldi hΦ (c := 43) (n := 4) rfl (by decide) rfl rfl g rfl ?_
      refine p_push (v := .int 1) rfl ?_
      refine p_icmp rfl (fun c => ?_) (fun c => ?_)
      · have h := h.1 c
        refine p_ild rfl rfl ?_
        refine p_un rfl ?_
        refine p_goto rfl ?_
        refine p_loc (ls' := []) rfl ?_
        obtain ⟨g, h⟩ := h
        refine pm_asti hΦ (c := 45) (n := 160) rfl (by decide) rfl rfl g ?_
        refine p_push (v := .int 1) rfl ?_
        exact p_ri rfl trivial h
      · have h := h.2 c
        refine p_ild rfl rfl ?_
        refine p_loc (ls' := []) rfl ?_
        obtain ⟨g, h⟩ := h
        refine pm_asti hΦ (c := 45) (n := 160) rfl (by decide) rfl rfl g ?_
        refine p_push (v := .int 1) rfl ?_
        exact p_ri rfl trivial h
theorem B199_0 {ev : xV} {Q : Option Value → xM → Prop} {m : Nat} {Φ : (Nat → Nat → Int32) → xM} (hΦ : MLaw m Φ) {μ : Nat → Nat → Int32} {x1 x2 x3 x4 x5 : Int32} (h : (∃ r μ', ev 143 [.ref m, .int x1] (Φ μ) (some (.int r)) (Φ μ') ∧ wpE (xT 199) ev Q (5, [(0, .ref m), (1, .int x1), (2, .int x2), (3, .int x3), (4, .int x4), (5, .int x5)], [.int r], Φ μ'))) : wpE (xT 199) ev Q (0, [(0, .ref m), (1, .int x1), (2, .int x2), (3, .int x3), (4, .int x4), (5, .int x5)], [], Φ μ) := by
  refine p_ald rfl rfl ?_
  refine p_ild rfl rfl ?_
  obtain ⟨r, μ', he, h⟩ := h
  exact p_callV rfl (Nat.le_of_ble_eq_true rfl) rfl rfl (Nat.le_of_ble_eq_true rfl) (ml_kd hΦ) he h
theorem B199_5 {ev : xV} {Q : Option Value → xM → Prop} {m : Nat} {Φ : (Nat → Nat → Int32) → xM} (hΦ : MLaw m Φ) {μ : Nat → Nat → Int32} {x1 x2 x3 x4 x5 s0 : Int32} (h : ((s0 = 0) → Q (some (.int ((-2)))) (Φ μ)) ∧ (¬ (s0 = 0) → (∃ r μ', ev 197 [.ref m, .int x2] (Φ μ) (some (.int r)) (Φ μ') ∧ wpE (xT 199) ev Q (13, [(0, .ref m), (1, .int x1), (2, .int x2), (3, .int x3), (4, .int x4), (5, .int x5)], [.int r], Φ μ')))) : wpE (xT 199) ev Q (5, [(0, .ref m), (1, .int x1), (2, .int x2), (3, .int x3), (4, .int x4), (5, .int x5)], [.int s0], Φ μ) := by
  refine p_if rfl (fun c => ?_) (fun c => ?_)
  · have h := h.1 c
    refine p_loc (ls' := []) rfl ?_
    refine p_push (v := .int (-2)) rfl ?_
    exact p_ri rfl trivial h
  · have h := h.2 c
    refine p_ald rfl rfl ?_
    refine p_ild rfl rfl ?_
    obtain ⟨r, μ', he, h⟩ := h
    exact p_callV rfl (Nat.le_of_ble_eq_true rfl) rfl rfl (Nat.le_of_ble_eq_true rfl) (ml_kd hΦ) he h
theorem B199_13 {ev : xV} {Q : Option Value → xM → Prop} {m : Nat} {Φ : (Nat → Nat → Int32) → xM} (hΦ : MLaw m Φ) {μ : Nat → Nat → Int32} {x1 x2 x3 x4 x5 s0 : Int32} (h : ((s0 = 0) → Q (some (.int ((-2)))) (Φ μ)) ∧ (¬ (s0 = 0) → (∃ r μ', ev 129 [.ref m, .int x3, .int 0, .int 2] (Φ μ) (some (.int r)) (Φ μ') ∧ wpE (xT 199) ev Q (23, [(0, .ref m), (1, .int x1), (2, .int x2), (3, .int x3), (4, .int x4), (5, .int x5)], [.int r], Φ μ')))) : wpE (xT 199) ev Q (13, [(0, .ref m), (1, .int x1), (2, .int x2), (3, .int x3), (4, .int x4), (5, .int x5)], [.int s0], Φ μ) := by
  refine p_if rfl (fun c => ?_) (fun c => ?_)
  · have h := h.1 c
    refine p_loc (ls' := []) rfl ?_
    refine p_push (v := .int (-2)) rfl ?_
    exact p_ri rfl trivial h
  · have h := h.2 c
    refine p_ald rfl rfl ?_
    refine p_ild rfl rfl ?_
    refine p_push (v := .int 0) rfl ?_
    refine p_push (v := .int 2) rfl ?_
    obtain ⟨r, μ', he, h⟩ := h
    exact p_callV rfl (Nat.le_of_ble_eq_true rfl) rfl rfl (Nat.le_of_ble_eq_true rfl) (ml_kd hΦ) he h
theorem B199_23 {ev : xV} {Q : Option Value → xM → Prop} {m : Nat} {Φ : (Nat → Nat → Int32) → xM} (hΦ : MLaw m Φ) {μ : Nat → Nat → Int32} {x1 x2 x3 x4 x5 s0 : Int32} (h : ((s0 = 0) → Q (some (.int ((-2)))) (Φ μ)) ∧ (¬ (s0 = 0) → (∃ r μ', ev 129 [.ref m, .int x5, .int 0, .int 20] (Φ μ) (some (.int r)) (Φ μ') ∧ wpE (xT 199) ev Q (35, [(0, .ref m), (1, .int x1), (2, .int x2), (3, .int x3), (4, .int x4), (5, .int x5)], [.int r], Φ μ')))) : wpE (xT 199) ev Q (23, [(0, .ref m), (1, .int x1), (2, .int x2), (3, .int x3), (4, .int x4), (5, .int x5)], [.int s0], Φ μ) := by
  refine p_if rfl (fun c => ?_) (fun c => ?_)
  · have h := h.1 c
    refine p_loc (ls' := []) rfl ?_
    refine p_push (v := .int (-2)) rfl ?_
    exact p_ri rfl trivial h
  · have h := h.2 c
    refine p_ald rfl rfl ?_
    refine p_ild rfl rfl ?_
    refine p_push (v := .int 0) rfl ?_
    refine p_push (v := .int 20) rfl ?_
    obtain ⟨r, μ', he, h⟩ := h
    exact p_callV rfl (Nat.le_of_ble_eq_true rfl) rfl rfl (Nat.le_of_ble_eq_true rfl) (ml_kd hΦ) he h
theorem B199_35 {ev : xV} {Q : Option Value → xM → Prop} {m : Nat} {Φ : (Nat → Nat → Int32) → xM} (hΦ : MLaw m Φ) {μ : Nat → Nat → Int32} {x1 x2 x3 x4 x5 s0 : Int32} (h : ((s0 = 0) → Q (some (.int ((-2)))) (Φ μ)) ∧ (¬ (s0 = 0) → vp_in x2 4 ∧ (((μ 43 x2.toNatClampNeg) < 0) → wpE (xT 199) ev Q (63, [(0, .ref m), (1, .int x1), (2, .int x2), (4, .int x4), (5, .int x5)], [], Φ μ)) ∧ (¬ ((μ 43 x2.toNatClampNeg) < 0) → vp_in x2 4 ∧ (((μ 43 x2.toNatClampNeg) = x3) → wpE (xT 199) ev Q (63, [(0, .ref m), (1, .int x1), (2, .int x2), (4, .int x4), (5, .int x5)], [], Φ μ)) ∧ (¬ ((μ 43 x2.toNatClampNeg) = x3) → Q (some (.int ((-13)))) (Φ μ))))) : wpE (xT 199) ev Q (35, [(0, .ref m), (1, .int x1), (2, .int x2), (3, .int x3), (4, .int x4), (5, .int x5)], [.int s0], Φ μ) := by
  refine p_if rfl (fun c => ?_) (fun c => ?_)
  · have h := h.1 c
    refine p_loc (ls' := []) rfl ?_
    refine p_push (v := .int (-2)) rfl ?_
    exact p_ri rfl trivial h
  · have h := h.2 c
    refine p_ald rfl rfl ?_
    refine pm_getp hΦ rfl (c := 43) rfl (by decide) ?_
    refine p_ild rfl rfl ?_
    obtain ⟨g, h⟩ := h
    refine pm_aldi hΦ (c := 43) (n := 4) rfl (by decide) rfl rfl g rfl ?_
    refine p_if rfl (fun c => ?_) (fun c => ?_)
    · have h := h.1 c
      exact p_loc (ls' := [(0, .ref m), (1, .int x1), (2, .int x2), (4, .int x4), (5, .int x5)]) rfl h
    · have h := h.2 c
      refine p_ald rfl rfl ?_
      refine pm_getp hΦ rfl (c := 43) rfl (by decide) ?_
      refine p_ild rfl rfl ?_
      obtain ⟨g, h⟩ := h
      refine pm_aldi hΦ (c := 43) (n := 4) rfl (by decide) rfl rfl g rfl ?_
      refine p_ild rfl rfl ?_
      refine p_icmp rfl (fun c => ?_) (fun c => ?_)
      · have h := h.1 c
        exact p_loc (ls' := [(0, .ref m), (1, .int x1), (2, .int x2), (4, .int x4), (5, .int x5)]) rfl h
      · have h := h.2 c
        refine p_push (v := .int (-13)) rfl ?_
        exact p_ri rfl trivial h
theorem B199_63 {ev : xV} {Q : Option Value → xM → Prop} {m : Nat} {Φ : (Nat → Nat → Int32) → xM} (hΦ : MLaw m Φ) {μ : Nat → Nat → Int32} {x1 x2 x4 x5 : Int32} (h : vp_in x2 4 ∧ ((0 ≤ (μ 43 x2.toNatClampNeg)) → wpE (xT 199) ev Q (81, [(0, .ref m), (1, .int x1), (2, .int x2), (4, .int x4), (5, .int x5), (6, .int 0), (7, .int 0)], [], Φ μ)) ∧ (¬ (0 ≤ (μ 43 x2.toNatClampNeg)) → Q (some (.int ((-11)))) (Φ μ))) : wpE (xT 199) ev Q (63, [(0, .ref m), (1, .int x1), (2, .int x2), (4, .int x4), (5, .int x5)], [], Φ μ) := by
  refine p_ald rfl rfl ?_
  refine pm_getp hΦ rfl (c := 43) rfl (by decide) ?_
  refine p_ild rfl rfl ?_
  obtain ⟨g, h⟩ := h
  refine pm_aldi hΦ (c := 43) (n := 4) rfl (by decide) rfl rfl g rfl ?_
  refine p_if rfl (fun c => ?_) (fun c => ?_)
  · have h := h.1 c
    refine p_push (v := .int 0) rfl ?_
    refine p_ist (ls' := [(6, .int 0), (0, .ref m), (1, .int x1), (2, .int x2), (4, .int x4), (5, .int x5)]) rfl (by decide) rfl ?_
    refine p_push (v := .int 0) rfl ?_
    refine p_ist (ls' := [(7, .int 0), (6, .int 0), (0, .ref m), (1, .int x1), (2, .int x2), (4, .int x4), (5, .int x5)]) rfl (by decide) rfl ?_
    exact p_loc (ls' := [(0, .ref m), (1, .int x1), (2, .int x2), (4, .int x4), (5, .int x5), (6, .int 0), (7, .int 0)]) rfl h
  · have h := h.2 c
    refine p_push (v := .int (-11)) rfl ?_
    exact p_ri rfl trivial h
theorem B199_81 {ev : xV} {Q : Option Value → xM → Prop} {m : Nat} {Φ : (Nat → Nat → Int32) → xM} (hΦ : MLaw m Φ) {μ : Nat → Nat → Int32} {x1 x2 x4 x5 x6 x7 : Int32} (h : ((x5 ≤ x7) → Q (some (.int x6)) (Φ μ)) ∧ (¬ (x5 ≤ x7) → ((x4 < 0) → Q (some (.int ((-12)))) (Φ μ)) ∧ (¬ (x4 < 0) → vp_in x2 4 ∧ ((x4 ≤ (((μ 44 x2.toNatClampNeg) - x7) - 1)) → vp_in (((40 * x2) + x4) + x7) 160 ∧ (∃ r μ', ev 142 [.ref m, .int x1, .int (μ 45 (((40 * x2) + x4) + x7).toNatClampNeg)] (Φ μ) (some (.int r)) (Φ μ') ∧ wpE (xT 199) ev Q (134, [(0, .ref m), (1, .int x1), (2, .int x2), (4, .int x4), (5, .int x5), (6, .int x6), (7, .int x7)], [.int r, .int x6], Φ μ'))) ∧ (¬ (x4 ≤ (((μ 44 x2.toNatClampNeg) - x7) - 1)) → Q (some (.int ((-12)))) (Φ μ))))) : wpE (xT 199) ev Q (81, [(0, .ref m), (1, .int x1), (2, .int x2), (4, .int x4), (5, .int x5), (6, .int x6), (7, .int x7)], [], Φ μ) := by
  refine p_ild rfl rfl ?_
  refine p_ild rfl rfl ?_
  refine p_icmp rfl (fun c => ?_) (fun c => ?_)
  · have h := h.1 c
    refine p_ild rfl rfl ?_
    exact p_ri rfl trivial h
  · have h := h.2 c
    refine p_ild rfl rfl ?_
    refine p_if rfl (fun c => ?_) (fun c => ?_)
    · have h := h.1 c
      refine p_loc (ls' := []) rfl ?_
      refine p_push (v := .int (-12)) rfl ?_
      exact p_ri rfl trivial h
    · have h := h.2 c
      refine p_ild rfl rfl ?_
      refine p_ald rfl rfl ?_
      refine pm_getp hΦ rfl (c := 44) rfl (by decide) ?_
      refine p_ild rfl rfl ?_
      obtain ⟨g, h⟩ := h
      refine pm_aldi hΦ (c := 44) (n := 4) rfl (by decide) rfl rfl g rfl ?_
      refine p_ild rfl rfl ?_
      refine p_bin rfl ?_
      refine p_push (v := .int 1) rfl ?_
      refine p_bin rfl ?_
      refine p_icmp rfl (fun c => ?_) (fun c => ?_)
      · have h := h.1 c
        refine p_ild rfl rfl ?_
        refine p_ald rfl rfl ?_
        refine p_ild rfl rfl ?_
        refine p_ald rfl rfl ?_
        refine pm_getp hΦ rfl (c := 45) rfl (by decide) ?_
        refine p_push (v := .int 40) rfl ?_
        refine p_ild rfl rfl ?_
        refine p_bin rfl ?_
        refine p_ild rfl rfl ?_
        refine p_bin rfl ?_
        refine p_ild rfl rfl ?_
        refine p_bin rfl ?_
        obtain ⟨g, h⟩ := h
        refine pm_aldi hΦ (c := 45) (n := 160) rfl (by decide) rfl rfl g rfl ?_
        obtain ⟨r, μ', he, h⟩ := h
        exact p_callV rfl (Nat.le_of_ble_eq_true rfl) rfl rfl (Nat.le_of_ble_eq_true rfl) (ml_kd hΦ) he h
      · have h := h.2 c
        refine p_loc (ls' := []) rfl ?_
        refine p_push (v := .int (-12)) rfl ?_
        exact p_ri rfl trivial h
theorem B199_134 {ev : xV} {Q : Option Value → xM → Prop} {m : Nat} {Φ : (Nat → Nat → Int32) → xM} (hΦ : MLaw m Φ) {μ : Nat → Nat → Int32} {x1 x2 x4 x5 x6 x7 s0 s1 : Int32} (h : ((s0 < 0) → wpE (xT 199) ev Q (81, [(0, .ref m), (1, .int x1), (2, .int x2), (4, .int x4), (5, .int x5), (6, .int (s1 + 0)), (7, .int (x7 + 1))], [], Φ μ)) ∧ (¬ (s0 < 0) → wpE (xT 199) ev Q (81, [(0, .ref m), (1, .int x1), (2, .int x2), (4, .int x4), (5, .int x5), (6, .int (s1 + 1)), (7, .int (x7 + 1))], [], Φ μ))) : wpE (xT 199) ev Q (134, [(0, .ref m), (1, .int x1), (2, .int x2), (4, .int x4), (5, .int x5), (6, .int x6), (7, .int x7)], [.int s0, .int s1], Φ μ) := by
  refine p_if rfl (fun c => ?_) (fun c => ?_)
  · have h := h.1 c
    refine p_push (v := .int 0) rfl ?_
    refine p_loc (ls' := [(0, .ref m), (1, .int x1), (2, .int x2), (4, .int x4), (5, .int x5), (7, .int x7)]) rfl ?_
    refine p_bin rfl ?_
    refine p_ist (ls' := [(6, .int (s1 + 0)), (0, .ref m), (1, .int x1), (2, .int x2), (4, .int x4), (5, .int x5), (7, .int x7)]) rfl (by decide) rfl ?_
    refine p_iinc (y := x7 + 1) (ls' := [(7, .int (x7 + 1)), (6, .int (s1 + 0)), (0, .ref m), (1, .int x1), (2, .int x2), (4, .int x4), (5, .int x5)]) rfl (by decide) rfl rfl rfl ?_
    refine p_goto rfl ?_
    exact p_loc (ls' := [(0, .ref m), (1, .int x1), (2, .int x2), (4, .int x4), (5, .int x5), (6, .int (s1 + 0)), (7, .int (x7 + 1))]) rfl h
  · have h := h.2 c
    refine p_push (v := .int 1) rfl ?_
    refine p_goto rfl ?_
    refine p_loc (ls' := [(0, .ref m), (1, .int x1), (2, .int x2), (4, .int x4), (5, .int x5), (7, .int x7)]) rfl ?_
    refine p_bin rfl ?_
    refine p_ist (ls' := [(6, .int (s1 + 1)), (0, .ref m), (1, .int x1), (2, .int x2), (4, .int x4), (5, .int x5), (7, .int x7)]) rfl (by decide) rfl ?_
    refine p_iinc (y := x7 + 1) (ls' := [(7, .int (x7 + 1)), (6, .int (s1 + 1)), (0, .ref m), (1, .int x1), (2, .int x2), (4, .int x4), (5, .int x5)]) rfl (by decide) rfl rfl rfl ?_
    refine p_goto rfl ?_
    exact p_loc (ls' := [(0, .ref m), (1, .int x1), (2, .int x2), (4, .int x4), (5, .int x5), (6, .int (s1 + 1)), (7, .int (x7 + 1))]) rfl h
theorem B200_0 {ev : xV} {Q : Option Value → xM → Prop} {m : Nat} {Φ : (Nat → Nat → Int32) → xM} (hΦ : MLaw m Φ) {μ : Nat → Nat → Int32} {x1 x2 : Int32} (h : (∃ r μ', ev 129 [.ref m, .int x2, .int 0, .int 5] (Φ μ) (some (.int r)) (Φ μ') ∧ wpE (xT 200) ev Q (7, [(0, .ref m), (1, .int x1), (2, .int x2)], [.int r], Φ μ'))) : wpE (xT 200) ev Q (0, [(0, .ref m), (1, .int x1), (2, .int x2)], [], Φ μ) := by
  refine p_ald rfl rfl ?_
  refine p_ild rfl rfl ?_
  refine p_push (v := .int 0) rfl ?_
  refine p_push (v := .int 5) rfl ?_
  obtain ⟨r, μ', he, h⟩ := h
  exact p_callV rfl (Nat.le_of_ble_eq_true rfl) rfl rfl (Nat.le_of_ble_eq_true rfl) (ml_kd hΦ) he h
theorem B200_7 {ev : xV} {Q : Option Value → xM → Prop} {m : Nat} {Φ : (Nat → Nat → Int32) → xM} (hΦ : MLaw m Φ) {μ : Nat → Nat → Int32} {x1 x2 s0 : Int32} (h : ((s0 = 0) → Q (some (.int ((-2)))) (Φ μ)) ∧ (¬ (s0 = 0) → (∃ r μ', ev 147 [.ref m, .int x1] (Φ μ) (some (.int r)) (Φ μ') ∧ wpE (xT 200) ev Q (18, [(0, .ref m), (1, .int x1), (2, .int x2)], [.int r], Φ μ')))) : wpE (xT 200) ev Q (7, [(0, .ref m), (1, .int x1), (2, .int x2)], [.int s0], Φ μ) := by
  refine p_if rfl (fun c => ?_) (fun c => ?_)
  · have h := h.1 c
    refine p_push (v := .int (-2)) rfl ?_
    exact p_ri rfl trivial h
  · have h := h.2 c
    refine p_ald rfl rfl ?_
    refine p_ild rfl rfl ?_
    obtain ⟨r, μ', he, h⟩ := h
    exact p_callV rfl (Nat.le_of_ble_eq_true rfl) rfl rfl (Nat.le_of_ble_eq_true rfl) (ml_kd hΦ) he h
theorem B200_18 {ev : xV} {Q : Option Value → xM → Prop} {m : Nat} {Φ : (Nat → Nat → Int32) → xM} (hΦ : MLaw m Φ) {μ : Nat → Nat → Int32} {x1 x2 s0 : Int32} (h : ((s0 = 0) → Q (some (.int ((-11)))) (Φ μ)) ∧ (¬ (s0 = 0) → vp_in x1 8 ∧ (∃ r μ', ev 201 [.ref m, .int (μ 11 x1.toNatClampNeg), .int x2] (Φ μ) (some (.int r)) (Φ μ') ∧ wpE (xT 200) ev Q (35, [(0, .ref m), (1, .int x1), (2, .int x2)], [.int r], Φ μ')))) : wpE (xT 200) ev Q (18, [(0, .ref m), (1, .int x1), (2, .int x2)], [.int s0], Φ μ) := by
  refine p_if rfl (fun c => ?_) (fun c => ?_)
  · have h := h.1 c
    refine p_push (v := .int (-11)) rfl ?_
    exact p_ri rfl trivial h
  · have h := h.2 c
    refine p_ald rfl rfl ?_
    refine p_ald rfl rfl ?_
    refine pm_getp hΦ rfl (c := 11) rfl (by decide) ?_
    refine p_ild rfl rfl ?_
    obtain ⟨g, h⟩ := h
    refine pm_aldi hΦ (c := 11) (n := 8) rfl (by decide) rfl rfl g rfl ?_
    refine p_ild rfl rfl ?_
    obtain ⟨r, μ', he, h⟩ := h
    exact p_callV rfl (Nat.le_of_ble_eq_true rfl) rfl rfl (Nat.le_of_ble_eq_true rfl) (ml_kd hΦ) he h
theorem B200_35 {ev : xV} {Q : Option Value → xM → Prop} {m : Nat} {Φ : (Nat → Nat → Int32) → xM} (hΦ : MLaw m Φ) {μ : Nat → Nat → Int32} {x1 x2 s0 : Int32} (h : ((s0 = 0) → Q (some (.int ((-13)))) (Φ μ)) ∧ (¬ (s0 = 0) → vp_in x1 8 ∧ Q (some (.int (μ 17 x1.toNatClampNeg))) (Φ μ))) : wpE (xT 200) ev Q (35, [(0, .ref m), (1, .int x1), (2, .int x2)], [.int s0], Φ μ) := by
  refine p_if rfl (fun c => ?_) (fun c => ?_)
  · have h := h.1 c
    refine p_push (v := .int (-13)) rfl ?_
    refine p_loc (ls' := []) rfl ?_
    exact p_ri rfl trivial h
  · have h := h.2 c
    refine p_ald rfl rfl ?_
    refine pm_getp hΦ rfl (c := 17) rfl (by decide) ?_
    refine p_ild rfl rfl ?_
    obtain ⟨g, h⟩ := h
    refine pm_aldi hΦ (c := 17) (n := 8) rfl (by decide) rfl rfl g rfl ?_
    refine p_goto rfl ?_
    refine p_loc (ls' := []) rfl ?_
    exact p_ri rfl trivial h
theorem B201_0 {ev : xV} {Q : Option Value → xM → Prop} {m : Nat} {Φ : (Nat → Nat → Int32) → xM} (hΦ : MLaw m Φ) {μ : Nat → Nat → Int32} {x1 x2 : Int32} (h : ((x2 = 0) → Q (some (.int 1)) (Φ μ)) ∧ (¬ (x2 = 0) → ((x1 = x2) → Q (some (.int 1)) (Φ μ)) ∧ (¬ (x1 = x2) → ((x2 = 1) → ((x1 = 3) → Q (some (.int 1)) (Φ μ)) ∧ (¬ (x1 = 3) → ((x1 = 5) → Q (some (.int 1)) (Φ μ)) ∧ (¬ (x1 = 5) → wpE (xT 201) ev Q (24, [(1, .int x1), (2, .int x2)], [], Φ μ)))) ∧ (¬ (x2 = 1) → wpE (xT 201) ev Q (24, [(1, .int x1), (2, .int x2)], [], Φ μ))))) : wpE (xT 201) ev Q (0, [(0, .ref m), (1, .int x1), (2, .int x2)], [], Φ μ) := by
  refine p_ild rfl rfl ?_
  refine p_if rfl (fun c => ?_) (fun c => ?_)
  · have h := h.1 c
    refine p_loc (ls' := []) rfl ?_
    refine p_push (v := .int 1) rfl ?_
    refine p_goto rfl ?_
    exact p_ri rfl (by decide) h
  · have h := h.2 c
    refine p_ild rfl rfl ?_
    refine p_ild rfl rfl ?_
    refine p_icmp rfl (fun c => ?_) (fun c => ?_)
    · have h := h.1 c
      refine p_loc (ls' := []) rfl ?_
      refine p_push (v := .int 1) rfl ?_
      refine p_goto rfl ?_
      exact p_ri rfl (by decide) h
    · have h := h.2 c
      refine p_ild rfl rfl ?_
      refine p_push (v := .int 1) rfl ?_
      refine p_icmp rfl (fun c => ?_) (fun c => ?_)
      · have h := h.1 c
        refine p_ild rfl rfl ?_
        refine p_push (v := .int 3) rfl ?_
        refine p_icmp rfl (fun c => ?_) (fun c => ?_)
        · have h := h.1 c
          refine p_loc (ls' := []) rfl ?_
          refine p_push (v := .int 1) rfl ?_
          refine p_goto rfl ?_
          exact p_ri rfl (by decide) h
        · have h := h.2 c
          refine p_ild rfl rfl ?_
          refine p_push (v := .int 5) rfl ?_
          refine p_icmp rfl (fun c => ?_) (fun c => ?_)
          · have h := h.1 c
            refine p_loc (ls' := []) rfl ?_
            refine p_push (v := .int 1) rfl ?_
            refine p_goto rfl ?_
            exact p_ri rfl (by decide) h
          · have h := h.2 c
            exact p_loc (ls' := [(1, .int x1), (2, .int x2)]) rfl h
      · have h := h.2 c
        exact p_loc (ls' := [(1, .int x1), (2, .int x2)]) rfl h
theorem B201_24 {ev : xV} {Q : Option Value → xM → Prop} {m : Nat} {Φ : (Nat → Nat → Int32) → xM} (hΦ : MLaw m Φ) {μ : Nat → Nat → Int32} {x1 x2 : Int32} (h : ((x2 = 2) → ((x1 = 4) → Q (some (.int 1)) (Φ μ)) ∧ (¬ (x1 = 4) → wpE (xT 201) ev Q (34, [(1, .int x1), (2, .int x2)], [], Φ μ))) ∧ (¬ (x2 = 2) → wpE (xT 201) ev Q (34, [(1, .int x1), (2, .int x2)], [], Φ μ))) : wpE (xT 201) ev Q (24, [(1, .int x1), (2, .int x2)], [], Φ μ) := by
  refine p_ild rfl rfl ?_
  refine p_push (v := .int 2) rfl ?_
  refine p_icmp rfl (fun c => ?_) (fun c => ?_)
  · have h := h.1 c
    refine p_ild rfl rfl ?_
    refine p_push (v := .int 4) rfl ?_
    refine p_icmp rfl (fun c => ?_) (fun c => ?_)
    · have h := h.1 c
      refine p_loc (ls' := []) rfl ?_
      refine p_push (v := .int 1) rfl ?_
      refine p_goto rfl ?_
      exact p_ri rfl (by decide) h
    · have h := h.2 c
      exact h
  · have h := h.2 c
    exact h
theorem B201_34 {ev : xV} {Q : Option Value → xM → Prop} {m : Nat} {Φ : (Nat → Nat → Int32) → xM} (hΦ : MLaw m Φ) {μ : Nat → Nat → Int32} {x1 x2 : Int32} (h : ((x2 = 3) → ((x1 = 5) → Q (some (.int 1)) (Φ μ)) ∧ (¬ (x1 = 5) → Q (some (.int 0)) (Φ μ))) ∧ (¬ (x2 = 3) → Q (some (.int 0)) (Φ μ))) : wpE (xT 201) ev Q (34, [(1, .int x1), (2, .int x2)], [], Φ μ) := by
  refine p_ild rfl rfl ?_
  refine p_push (v := .int 3) rfl ?_
  refine p_icmp rfl (fun c => ?_) (fun c => ?_)
  · have h := h.1 c
    refine p_ild rfl rfl ?_
    refine p_push (v := .int 5) rfl ?_
    refine p_icmp rfl (fun c => ?_) (fun c => ?_)
    · have h := h.1 c
      refine p_loc (ls' := []) rfl ?_
      refine p_push (v := .int 1) rfl ?_
      refine p_goto rfl ?_
      exact p_ri rfl (by decide) h
    · have h := h.2 c
      refine p_loc (ls' := []) rfl ?_
      refine p_push (v := .int 0) rfl ?_
      exact p_ri rfl (by decide) h
  · have h := h.2 c
    refine p_loc (ls' := []) rfl ?_
    refine p_push (v := .int 0) rfl ?_
    exact p_ri rfl (by decide) h
