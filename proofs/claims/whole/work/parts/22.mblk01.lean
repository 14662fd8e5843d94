theorem B140_0 {ev : xV} {Q : Option Value → xM → Prop} {m : Nat} {Φ : (Nat → Nat → Int32) → xM} (hΦ : MLaw m Φ) {μ : Nat → Nat → Int32} {x1 x2 x3 : Int32} (h : (∃ r μ', ev 135 [.ref m, .int x1] (Φ μ) (some (.int r)) (Φ μ') ∧ wpE (xT 140) ev Q (5, [(0, .ref m), (1, .int x1), (2, .int x2), (3, .int x3)], [.int r], Φ μ'))) : wpE (xT 140) ev Q (0, [(0, .ref m), (1, .int x1), (2, .int x2), (3, .int x3)], [], Φ μ) := by
  refine p_ald (cc3 c140_0) rfl ?_
  refine p_ild (cc3 c140_1) rfl ?_
  obtain ⟨r, μ', he, h⟩ := h
  exact p_callV (cc3 c140_2) (Nat.le_of_ble_eq_true rfl) rfl rfl (Nat.le_of_ble_eq_true rfl) (ml_kd hΦ) he h
theorem B140_5 {ev : xV} {Q : Option Value → xM → Prop} {m : Nat} {Φ : (Nat → Nat → Int32) → xM} (hΦ : MLaw m Φ) {μ : Nat → Nat → Int32} {x1 x2 x3 s0 : Int32} (h : ((s0 = 0) → Q (some (.int ((-2)))) (Φ μ)) ∧ (¬ (s0 = 0) → (∃ r μ', ev 129 [.ref m, .int x2, .int 0, .int 99999] (Φ μ) (some (.int r)) (Φ μ') ∧ wpE (xT 140) ev Q (16, [(0, .ref m), (1, .int x1), (2, .int x2), (3, .int x3)], [.int r], Φ μ')))) : wpE (xT 140) ev Q (5, [(0, .ref m), (1, .int x1), (2, .int x2), (3, .int x3)], [.int s0], Φ μ) := by
  refine p_if (cc3 c140_5) (fun c => ?_) (fun c => ?_)
  · have h := h.1 c
    refine p_lc (ls' := []) c140_30 rfl rfl ?_
    refine p_push (cct c140_30 rfl) ?_
    exact p_ri (cc3 c140_32) trivial h
  · have h := h.2 c
    refine p_ald (cc3 c140_8) rfl ?_
    refine p_ild (cc3 c140_9) rfl ?_
    refine p_push (cc3 c140_10) ?_
    refine p_push (cc3 c140_11) ?_
    obtain ⟨r, μ', he, h⟩ := h
    exact p_callV (cc3 c140_13) (Nat.le_of_ble_eq_true rfl) rfl rfl (Nat.le_of_ble_eq_true rfl) (ml_kd hΦ) he h
theorem B140_16 {ev : xV} {Q : Option Value → xM → Prop} {m : Nat} {Φ : (Nat → Nat → Int32) → xM} (hΦ : MLaw m Φ) {μ : Nat → Nat → Int32} {x1 x2 x3 s0 : Int32} (h : ((s0 = 0) → Q (some (.int ((-2)))) (Φ μ)) ∧ (¬ (s0 = 0) → (∃ r μ', ev 129 [.ref m, .int x3, .int 0, .int 99999] (Φ μ) (some (.int r)) (Φ μ') ∧ wpE (xT 140) ev Q (27, [(0, .ref m), (1, .int x1), (2, .int x2), (3, .int x3)], [.int r], Φ μ')))) : wpE (xT 140) ev Q (16, [(0, .ref m), (1, .int x1), (2, .int x2), (3, .int x3)], [.int s0], Φ μ) := by
  refine p_if (cc3 c140_16) (fun c => ?_) (fun c => ?_)
  · have h := h.1 c
    refine p_lc (ls' := []) c140_30 rfl rfl ?_
    refine p_push (cct c140_30 rfl) ?_
    exact p_ri (cc3 c140_32) trivial h
  · have h := h.2 c
    refine p_ald (cc3 c140_19) rfl ?_
    refine p_ild (cc3 c140_20) rfl ?_
    refine p_push (cc3 c140_21) ?_
    refine p_push (cc3 c140_22) ?_
    obtain ⟨r, μ', he, h⟩ := h
    exact p_callV (cc3 c140_24) (Nat.le_of_ble_eq_true rfl) rfl rfl (Nat.le_of_ble_eq_true rfl) (ml_kd hΦ) he h
theorem B140_27 {ev : xV} {Q : Option Value → xM → Prop} {m : Nat} {Φ : (Nat → Nat → Int32) → xM} (hΦ : MLaw m Φ) {μ : Nat → Nat → Int32} {x1 x2 x3 s0 : Int32} (h : ((s0 = 0) → Q (some (.int ((-2)))) (Φ μ)) ∧ (¬ (s0 = 0) → ((2 ≤ ((x2 + x3) - (x2 + x3) / 4 * 4)) → (∃ r μ', ev 139 [.ref m, .int x1, .int x3] (Φ μ) (some (.int r)) (Φ μ') ∧ wpE (xT 140) ev Q (52, [], [.int r], Φ μ'))) ∧ (¬ (2 ≤ ((x2 + x3) - (x2 + x3) / 4 * 4)) → (∃ r μ', ev 139 [.ref m, .int x1, .int x2] (Φ μ) (some (.int r)) (Φ μ') ∧ wpE (xT 140) ev Q (52, [], [.int r], Φ μ'))))) : wpE (xT 140) ev Q (27, [(0, .ref m), (1, .int x1), (2, .int x2), (3, .int x3)], [.int s0], Φ μ) := by
  refine p_if (cc3 c140_27) (fun c => ?_) (fun c => ?_)
  · have h := h.1 c
    refine p_lc (ls' := []) c140_30 rfl rfl ?_
    refine p_push (cct c140_30 rfl) ?_
    exact p_ri (cc3 c140_32) trivial h
  · have h := h.2 c
    refine p_ald (cc3 c140_33) rfl ?_
    refine p_ild (cc3 c140_34) rfl ?_
    refine p_ild (cc3 c140_35) rfl ?_
    refine p_ild (cc3 c140_36) rfl ?_
    refine p_bin (cc3 c140_37) ?_
    refine p_push (cc3 c140_38) ?_
    refine p_div (cc3 c140_39) (by decide) ?_
    refine p_push (cc3 c140_40) ?_
    refine p_icmp (cc3 c140_41) (fun c => ?_) (fun c => ?_)
    · have h := h.1 c
      refine p_ild (cc3 c140_48) rfl ?_
      refine p_lc (ls' := []) c140_49 rfl rfl ?_
      obtain ⟨r, μ', he, h⟩ := h
      exact p_callV (cct c140_49 rfl) (Nat.le_of_ble_eq_true rfl) rfl rfl (Nat.le_of_ble_eq_true rfl) (ml_kd hΦ) he h
    · have h := h.2 c
      refine p_ild (cc3 c140_44) rfl ?_
      refine p_goto (cc3 c140_45) ?_
      refine p_lc (ls' := []) c140_49 rfl rfl ?_
      obtain ⟨r, μ', he, h⟩ := h
      exact p_callV (cct c140_49 rfl) (Nat.le_of_ble_eq_true rfl) rfl rfl (Nat.le_of_ble_eq_true rfl) (ml_kd hΦ) he h
theorem B140_52 {ev : xV} {Q : Option Value → xM → Prop} {m : Nat} {Φ : (Nat → Nat → Int32) → xM} (hΦ : MLaw m Φ) {μ : Nat → Nat → Int32} {s0 : Int32} (h : Q (some (.int s0)) (Φ μ)) : wpE (xT 140) ev Q (52, [], [.int s0], Φ μ) := by
  exact p_ri (cc3 c140_52) trivial h
theorem B141_0 {ev : xV} {Q : Option Value → xM → Prop} {m : Nat} {Φ : (Nat → Nat → Int32) → xM} (hΦ : MLaw m Φ) {μ : Nat → Nat → Int32} {x1 x2 : Int32} (h : (∃ r μ', ev 135 [.ref m, .int x1] (Φ μ) (some (.int r)) (Φ μ') ∧ wpE (xT 141) ev Q (5, [(0, .ref m), (1, .int x1), (2, .int x2)], [.int r], Φ μ'))) : wpE (xT 141) ev Q (0, [(0, .ref m), (1, .int x1), (2, .int x2)], [], Φ μ) := by
  refine p_ald (cc3 c141_0) rfl ?_
  refine p_ild (cc3 c141_1) rfl ?_
  obtain ⟨r, μ', he, h⟩ := h
  exact p_callV (cc3 c141_2) (Nat.le_of_ble_eq_true rfl) rfl rfl (Nat.le_of_ble_eq_true rfl) (ml_kd hΦ) he h
theorem B141_5 {ev : xV} {Q : Option Value → xM → Prop} {m : Nat} {Φ : (Nat → Nat → Int32) → xM} (hΦ : MLaw m Φ) {μ : Nat → Nat → Int32} {x1 x2 s0 : Int32} (h : ((s0 = 0) → Q (some (.int ((-2)))) (Φ μ)) ∧ (¬ (s0 = 0) → (∃ r μ', ev 129 [.ref m, .int x2, .int 100, .int 9999] (Φ μ) (some (.int r)) (Φ μ') ∧ wpE (xT 141) ev Q (18, [(0, .ref m), (1, .int x1), (2, .int x2)], [.int r], Φ μ')))) : wpE (xT 141) ev Q (5, [(0, .ref m), (1, .int x1), (2, .int x2)], [.int s0], Φ μ) := by
  refine p_if (cc3 c141_5) (fun c => ?_) (fun c => ?_)
  · have h := h.1 c
    refine p_lc (ls' := []) c141_21 rfl rfl ?_
    refine p_push (cct c141_21 rfl) ?_
    exact p_ri (cc3 c141_23) trivial h
  · have h := h.2 c
    refine p_ald (cc3 c141_8) rfl ?_
    refine p_ild (cc3 c141_9) rfl ?_
    refine p_push (cc3 c141_10) ?_
    refine p_push (cc3 c141_12) ?_
    obtain ⟨r, μ', he, h⟩ := h
    exact p_callV (cc3 c141_15) (Nat.le_of_ble_eq_true rfl) rfl rfl (Nat.le_of_ble_eq_true rfl) (ml_kd hΦ) he h
theorem B141_18 {ev : xV} {Q : Option Value → xM → Prop} {m : Nat} {Φ : (Nat → Nat → Int32) → xM} (hΦ : MLaw m Φ) {μ : Nat → Nat → Int32} {x1 x2 s0 : Int32} (h : ((s0 = 0) → Q (some (.int ((-2)))) (Φ μ)) ∧ (¬ (s0 = 0) → (((μ 0 8) = 4) → Q (some (.int ((-4)))) (Φ μ)) ∧ (¬ ((μ 0 8) = 4) → vp_in (μ 0 8) 5 ∧ vp_in (μ 0 8) 5 ∧ vp_in (μ 0 8) 5 ∧ Q (some (.int (((μ 0 8) + 1) - 1))) (Φ (U (U (U (U μ 7 ((μ 0 8).toNatClampNeg) x1) 8 ((μ 0 8).toNatClampNeg) x2) 9 ((μ 0 8).toNatClampNeg) 0) 0 8 ((μ 0 8) + 1)))))) : wpE (xT 141) ev Q (18, [(0, .ref m), (1, .int x1), (2, .int x2)], [.int s0], Φ μ) := by
  refine p_if (cc3 c141_18) (fun c => ?_) (fun c => ?_)
  · have h := h.1 c
    refine p_lc (ls' := []) c141_21 rfl rfl ?_
    refine p_push (cct c141_21 rfl) ?_
    exact p_ri (cc3 c141_23) trivial h
  · have h := h.2 c
    refine p_ald (cc3 c141_24) rfl ?_
    refine pm_geti hΦ (v := μ 0 8) (cc3 c141_25) rfl ?_
    refine p_push (cc3 c141_28) ?_
    refine p_icmp (cc3 c141_29) (fun c => ?_) (fun c => ?_)
    · have h := h.1 c
      refine p_push (cc3 c141_32) ?_
      exact p_ri (cc3 c141_34) trivial h
    · have h := h.2 c
      refine p_ald (cc3 c141_35) rfl ?_
      refine pm_getp hΦ (cc3 c141_36) (c := 7) rfl (by decide) ?_
      refine p_ald (cc3 c141_39) rfl ?_
      refine pm_geti hΦ (v := μ 0 8) (cc3 c141_40) rfl ?_
      refine p_ild (cc3 c141_43) rfl ?_
      obtain ⟨g, h⟩ := h
      refine pm_asti hΦ (c := 7) (n := 5) (cc3 c141_44) (by decide) rfl rfl rfl g ?_
      refine p_ald (cc3 c141_45) rfl ?_
      refine pm_getp hΦ (cc3 c141_46) (c := 8) rfl (by decide) ?_
      refine p_ald (cc3 c141_49) rfl ?_
      refine pm_geti hΦ (v := μ 0 8) (cc3 c141_50) rfl ?_
      refine p_ild (cc3 c141_53) rfl ?_
      obtain ⟨g, h⟩ := h
      refine pm_asti hΦ (c := 8) (n := 5) (cc3 c141_54) (by decide) rfl rfl rfl g ?_
      refine p_ald (cc3 c141_55) rfl ?_
      refine pm_getp hΦ (cc3 c141_56) (c := 9) rfl (by decide) ?_
      refine p_ald (cc3 c141_59) rfl ?_
      refine pm_geti hΦ (v := μ 0 8) (cc3 c141_60) rfl ?_
      refine p_push (cc3 c141_63) ?_
      obtain ⟨g, h⟩ := h
      refine pm_asti hΦ (c := 9) (n := 5) (cc3 c141_64) (by decide) rfl rfl rfl g ?_
      refine p_ald (cc3 c141_65) rfl ?_
      refine p_dup (cc3 c141_66) rfl ?_
      refine pm_geti hΦ (v := μ 0 8) (cc3 c141_67) rfl ?_
      refine p_push (cc3 c141_70) ?_
      refine p_bin (cc3 c141_71) ?_
      refine pm_puti hΦ (cc3 c141_72) ?_
      refine p_ald (cc3 c141_75) rfl ?_
      refine pm_geti hΦ (v := (μ 0 8) + 1) (cc3 c141_76) rfl ?_
      refine p_push (cc3 c141_79) ?_
      refine p_bin (cc3 c141_80) ?_
      exact p_ri (cc3 c141_81) trivial h
theorem B142_0 {ev : xV} {Q : Option Value → xM → Prop} {m : Nat} {Φ : (Nat → Nat → Int32) → xM} (hΦ : MLaw m Φ) {μ : Nat → Nat → Int32} {x1 x2 : Int32} (h : (∃ r μ', ev 143 [.ref m, .int x1] (Φ μ) (some (.int r)) (Φ μ') ∧ wpE (xT 142) ev Q (5, [(0, .ref m), (1, .int x1), (2, .int x2)], [.int r], Φ μ'))) : wpE (xT 142) ev Q (0, [(0, .ref m), (1, .int x1), (2, .int x2)], [], Φ μ) := by
  refine p_ald (cc3 c142_0) rfl ?_
  refine p_ild (cc3 c142_1) rfl ?_
  obtain ⟨r, μ', he, h⟩ := h
  exact p_callV (cc3 c142_2) (Nat.le_of_ble_eq_true rfl) rfl rfl (Nat.le_of_ble_eq_true rfl) (ml_kd hΦ) he h
theorem B142_5 {ev : xV} {Q : Option Value → xM → Prop} {m : Nat} {Φ : (Nat → Nat → Int32) → xM} (hΦ : MLaw m Φ) {μ : Nat → Nat → Int32} {x1 x2 s0 : Int32} (h : ((s0 = 0) → Q (some (.int ((-2)))) (Φ μ)) ∧ (¬ (s0 = 0) → vp_in x1 5 ∧ (∃ r μ', ev 129 [.ref m, .int x2, .int 0, .int ((μ 8 x1.toNatClampNeg) - 1)] (Φ μ) (some (.int r)) (Φ μ') ∧ wpE (xT 142) ev Q (22, [(0, .ref m), (1, .int x1), (2, .int x2)], [.int r], Φ μ')))) : wpE (xT 142) ev Q (5, [(0, .ref m), (1, .int x1), (2, .int x2)], [.int s0], Φ μ) := by
  refine p_if (cc3 c142_5) (fun c => ?_) (fun c => ?_)
  · have h := h.1 c
    refine p_lc (ls' := []) c142_35 rfl rfl ?_
    refine p_push (cct c142_35 rfl) ?_
    exact p_ri (cc3 c142_37) trivial h
  · have h := h.2 c
    refine p_ald (cc3 c142_8) rfl ?_
    refine p_ild (cc3 c142_9) rfl ?_
    refine p_push (cc3 c142_10) ?_
    refine p_ald (cc3 c142_11) rfl ?_
    refine pm_getp hΦ (cc3 c142_12) (c := 8) rfl (by decide) ?_
    refine p_ild (cc3 c142_15) rfl ?_
    obtain ⟨g, h⟩ := h
    refine pm_aldi hΦ (c := 8) (n := 5) (cc3 c142_16) (by decide) rfl rfl rfl g rfl ?_
    refine p_push (cc3 c142_17) ?_
    refine p_bin (cc3 c142_18) ?_
    obtain ⟨r, μ', he, h⟩ := h
    exact p_callV (cc3 c142_19) (Nat.le_of_ble_eq_true rfl) rfl rfl (Nat.le_of_ble_eq_true rfl) (ml_kd hΦ) he h
theorem B142_22 {ev : xV} {Q : Option Value → xM → Prop} {m : Nat} {Φ : (Nat → Nat → Int32) → xM} (hΦ : MLaw m Φ) {μ : Nat → Nat → Int32} {x1 x2 s0 : Int32} (h : ((s0 = 0) → Q (some (.int ((-2)))) (Φ μ)) ∧ (¬ (s0 = 0) → (∃ r μ', ev 144 [.ref m, .int x1, .int x2, .int 1] (Φ μ) (some (.int r)) (Φ μ') ∧ wpE (xT 142) ev Q (32, [(0, .ref m), (1, .int x1), (2, .int x2)], [.int r], Φ μ')))) : wpE (xT 142) ev Q (22, [(0, .ref m), (1, .int x1), (2, .int x2)], [.int s0], Φ μ) := by
  refine p_if (cc3 c142_22) (fun c => ?_) (fun c => ?_)
  · have h := h.1 c
    refine p_lc (ls' := []) c142_35 rfl rfl ?_
    refine p_push (cct c142_35 rfl) ?_
    exact p_ri (cc3 c142_37) trivial h
  · have h := h.2 c
    refine p_ald (cc3 c142_25) rfl ?_
    refine p_ild (cc3 c142_26) rfl ?_
    refine p_ild (cc3 c142_27) rfl ?_
    refine p_push (cc3 c142_28) ?_
    obtain ⟨r, μ', he, h⟩ := h
    exact p_callV (cc3 c142_29) (Nat.le_of_ble_eq_true rfl) rfl rfl (Nat.le_of_ble_eq_true rfl) (ml_kd hΦ) he h
theorem B142_32 {ev : xV} {Q : Option Value → xM → Prop} {m : Nat} {Φ : (Nat → Nat → Int32) → xM} (hΦ : MLaw m Φ) {μ : Nat → Nat → Int32} {x1 x2 s0 : Int32} (h : ((s0 = 0) → vp_in x1 5 ∧ (((μ 9 x1.toNatClampNeg) = 10) → Q (some (.int ((-4)))) (Φ μ)) ∧ (¬ ((μ 9 x1.toNatClampNeg) = 10) → vp_in x1 5 ∧ vp_in ((10 * x1) + (μ 9 x1.toNatClampNeg)) 50 ∧ vp_in x1 5 ∧ vp_in x1 5 ∧ vp_in x1 5 ∧ Q (some (.int ((U (U μ 10 (((10 * x1) + (μ 9 x1.toNatClampNeg)).toNatClampNeg) x2) 9 x1.toNatClampNeg (((U μ 10 (((10 * x1) + (μ 9 x1.toNatClampNeg)).toNatClampNeg) x2) 9 x1.toNatClampNeg) + 1)) 9 x1.toNatClampNeg))) (Φ (U (U μ 10 (((10 * x1) + (μ 9 x1.toNatClampNeg)).toNatClampNeg) x2) 9 x1.toNatClampNeg (((U μ 10 (((10 * x1) + (μ 9 x1.toNatClampNeg)).toNatClampNeg) x2) 9 x1.toNatClampNeg) + 1))))) ∧ (¬ (s0 = 0) → Q (some (.int ((-2)))) (Φ μ))) : wpE (xT 142) ev Q (32, [(0, .ref m), (1, .int x1), (2, .int x2)], [.int s0], Φ μ) := by
  refine p_if (cc3 c142_32) (fun c => ?_) (fun c => ?_)
  · have h := h.1 c
    refine p_ald (cc3 c142_38) rfl ?_
    refine pm_getp hΦ (cc3 c142_39) (c := 9) rfl (by decide) ?_
    refine p_ild (cc3 c142_42) rfl ?_
    obtain ⟨g, h⟩ := h
    refine pm_aldi hΦ (c := 9) (n := 5) (cc3 c142_43) (by decide) rfl rfl rfl g rfl ?_
    refine p_push (cc3 c142_44) ?_
    refine p_icmp (cc3 c142_46) (fun c => ?_) (fun c => ?_)
    · have h := h.1 c
      refine p_push (cc3 c142_49) ?_
      exact p_ri (cc3 c142_51) trivial h
    · have h := h.2 c
      refine p_ald (cc3 c142_52) rfl ?_
      refine pm_getp hΦ (cc3 c142_53) (c := 10) rfl (by decide) ?_
      refine p_push (cc3 c142_56) ?_
      refine p_ild (cc3 c142_58) rfl ?_
      refine p_bin (cc3 c142_59) ?_
      refine p_ald (cc3 c142_60) rfl ?_
      refine pm_getp hΦ (cc3 c142_61) (c := 9) rfl (by decide) ?_
      refine p_ild (cc3 c142_64) rfl ?_
      obtain ⟨g, h⟩ := h
      refine pm_aldi hΦ (c := 9) (n := 5) (cc3 c142_65) (by decide) rfl rfl rfl g rfl ?_
      refine p_bin (cc3 c142_66) ?_
      refine p_ild (cc3 c142_67) rfl ?_
      obtain ⟨g, h⟩ := h
      refine pm_asti hΦ (c := 10) (n := 50) (cc3 c142_68) (by decide) rfl rfl rfl g ?_
      refine p_ald (cc3 c142_69) rfl ?_
      refine pm_getp hΦ (cc3 c142_70) (c := 9) rfl (by decide) ?_
      refine p_ild (cc3 c142_73) rfl ?_
      refine p_dup2 (cc3 c142_74) rfl rfl ?_
      obtain ⟨g, h⟩ := h
      refine pm_aldi hΦ (c := 9) (n := 5) (cc3 c142_75) (by decide) rfl rfl rfl g rfl ?_
      refine p_push (cc3 c142_76) ?_
      refine p_bin (cc3 c142_77) ?_
      obtain ⟨g, h⟩ := h
      refine pm_asti hΦ (c := 9) (n := 5) (cc3 c142_78) (by decide) rfl rfl rfl g ?_
      refine p_ald (cc3 c142_79) rfl ?_
      refine pm_getp hΦ (cc3 c142_80) (c := 9) rfl (by decide) ?_
      refine p_ild (cc3 c142_83) rfl ?_
      obtain ⟨g, h⟩ := h
      refine pm_aldi hΦ (c := 9) (n := 5) (cc3 c142_84) (by decide) rfl rfl rfl g rfl ?_
      exact p_ri (cc3 c142_85) trivial h
  · have h := h.2 c
    refine p_lc (ls' := []) c142_35 rfl rfl ?_
    refine p_push (cct c142_35 rfl) ?_
    exact p_ri (cc3 c142_37) trivial h
theorem B143_0 {ev : xV} {Q : Option Value → xM → Prop} {m : Nat} {Φ : (Nat → Nat → Int32) → xM} (hΦ : MLaw m Φ) {μ : Nat → Nat → Int32} {x1 : Int32} (h : (∃ r μ', ev 129 [.ref m, .int x1, .int 0, .int ((μ 0 8) - 1)] (Φ μ) (some (.int r)) (Φ μ') ∧ wpE (xT 143) ev Q (12, [(0, .ref m), (1, .int x1)], [.int r], Φ μ'))) : wpE (xT 143) ev Q (0, [(0, .ref m), (1, .int x1)], [], Φ μ) := by
  refine p_ald (cc3 c143_0) rfl ?_
  refine p_ild (cc3 c143_1) rfl ?_
  refine p_push (cc3 c143_2) ?_
  refine p_ald (cc3 c143_3) rfl ?_
  refine pm_geti hΦ (v := μ 0 8) (cc3 c143_4) rfl ?_
  refine p_push (cc3 c143_7) ?_
  refine p_bin (cc3 c143_8) ?_
  obtain ⟨r, μ', he, h⟩ := h
  exact p_callV (cc3 c143_9) (Nat.le_of_ble_eq_true rfl) rfl rfl (Nat.le_of_ble_eq_true rfl) (ml_kd hΦ) he h
theorem B143_12 {ev : xV} {Q : Option Value → xM → Prop} {m : Nat} {Φ : (Nat → Nat → Int32) → xM} (hΦ : MLaw m Φ) {μ : Nat → Nat → Int32} {x1 s0 : Int32} (h : ((s0 = 0 ∨ s0 = 1) ∧ Q (some (.int s0)) (Φ μ))) : wpE (xT 143) ev Q (12, [(0, .ref m), (1, .int x1)], [.int s0], Φ μ) := by
  exact p_ri (cc3 c143_12) h.1 h.2
theorem B144_0 {ev : xV} {Q : Option Value → xM → Prop} {m : Nat} {Φ : (Nat → Nat → Int32) → xM} (hΦ : MLaw m Φ) {μ : Nat → Nat → Int32} {x1 x2 x3 : Int32} (h : wpE (xT 144) ev Q (6, [(0, .ref m), (1, .int x1), (2, .int x2), (3, .int x3), (4, .int 0), (5, .int 0)], [], Φ μ)) : wpE (xT 144) ev Q (0, [(0, .ref m), (1, .int x1), (2, .int x2), (3, .int x3)], [], Φ μ) := by
  refine p_push (cc3 c144_0) ?_
  refine p_ist (ls' := [(4, .int 0), (0, .ref m), (1, .int x1), (2, .int x2), (3, .int x3)]) (cc3 c144_1) (by decide) rfl ?_
  refine p_push (cc3 c144_3) ?_
  refine p_ist (ls' := [(5, .int 0), (4, .int 0), (0, .ref m), (1, .int x1), (2, .int x2), (3, .int x3)]) (cc3 c144_4) (by decide) rfl ?_
  exact p_lc (ls' := [(0, .ref m), (1, .int x1), (2, .int x2), (3, .int x3), (4, .int 0), (5, .int 0)]) c144_6 rfl rfl h
theorem B144_6 {ev : xV} {Q : Option Value → xM → Prop} {m : Nat} {Φ : (Nat → Nat → Int32) → xM} (hΦ : MLaw m Φ) {μ : Nat → Nat → Int32} {x1 x2 x3 x4 x5 : Int32} (h : vp_in x1 5 ∧ (((μ 9 x1.toNatClampNeg) ≤ x5) → ((x4 = 0 ∨ x4 = 1) ∧ Q (some (.int x4)) (Φ μ))) ∧ (¬ ((μ 9 x1.toNatClampNeg) ≤ x5) → ((x4 = 0) → vp_in ((10 * x1) + x5) 50 ∧ (((μ 10 ((10 * x1) + x5).toNatClampNeg) < x2) → wpE (xT 144) ev Q (6, [(0, .ref m), (1, .int x1), (2, .int x2), (3, .int x3), (4, .int 0), (5, .int (x5 + 1))], [], Φ μ)) ∧ (¬ ((μ 10 ((10 * x1) + x5).toNatClampNeg) < x2) → vp_in ((10 * x1) + x5) 50 ∧ (((x2 + x3) ≤ (μ 10 ((10 * x1) + x5).toNatClampNeg)) → wpE (xT 144) ev Q (6, [(0, .ref m), (1, .int x1), (2, .int x2), (3, .int x3), (4, .int 0), (5, .int (x5 + 1))], [], Φ μ)) ∧ (¬ ((x2 + x3) ≤ (μ 10 ((10 * x1) + x5).toNatClampNeg)) → wpE (xT 144) ev Q (6, [(0, .ref m), (1, .int x1), (2, .int x2), (3, .int x3), (4, .int 1), (5, .int (x5 + 1))], [], Φ μ)))) ∧ (¬ (x4 = 0) → wpE (xT 144) ev Q (6, [(0, .ref m), (1, .int x1), (2, .int x2), (3, .int x3), (4, .int 1), (5, .int (x5 + 1))], [], Φ μ)))) : wpE (xT 144) ev Q (6, [(0, .ref m), (1, .int x1), (2, .int x2), (3, .int x3), (4, .int x4), (5, .int x5)], [], Φ μ) := by
  refine p_ild (cct c144_6 rfl) rfl ?_
  refine p_ald (cc3 c144_8) rfl ?_
  refine pm_getp hΦ (cc3 c144_9) (c := 9) rfl (by decide) ?_
  refine p_ild (cc3 c144_12) rfl ?_
  obtain ⟨g, h⟩ := h
  refine pm_aldi hΦ (c := 9) (n := 5) (cc3 c144_13) (by decide) rfl rfl rfl g rfl ?_
  refine p_icmp (cc3 c144_14) (fun c => ?_) (fun c => ?_)
  · have h := h.1 c
    refine p_ild (cc3 c144_69) rfl ?_
    exact p_ri (cc3 c144_71) h.1 h.2
  · have h := h.2 c
    refine p_ild (cc3 c144_17) rfl ?_
    refine p_if (cc3 c144_19) (fun c => ?_) (fun c => ?_)
    · have h := h.1 c
      refine p_ald (cc3 c144_22) rfl ?_
      refine pm_getp hΦ (cc3 c144_23) (c := 10) rfl (by decide) ?_
      refine p_push (cc3 c144_26) ?_
      refine p_ild (cc3 c144_28) rfl ?_
      refine p_bin (cc3 c144_29) ?_
      refine p_ild (cc3 c144_30) rfl ?_
      refine p_bin (cc3 c144_32) ?_
      obtain ⟨g, h⟩ := h
      refine pm_aldi hΦ (c := 10) (n := 50) (cc3 c144_33) (by decide) rfl rfl rfl g rfl ?_
      refine p_ild (cc3 c144_34) rfl ?_
      refine p_icmp (cc3 c144_35) (fun c => ?_) (fun c => ?_)
      · have h := h.1 c
        refine p_lc (ls' := [(0, .ref m), (1, .int x1), (2, .int x2), (3, .int x3), (5, .int x5)]) c144_60 rfl rfl ?_
        refine p_push (cct c144_60 rfl) ?_
        refine p_ist (ls' := [(4, .int 0), (0, .ref m), (1, .int x1), (2, .int x2), (3, .int x3), (5, .int x5)]) (cct c144_61 rfl) (by decide) rfl ?_
        refine p_iinc (y := x5 + 1) (ls' := [(5, .int (x5 + 1)), (4, .int 0), (0, .ref m), (1, .int x1), (2, .int x2), (3, .int x3)]) (cc3 c144_63) (by decide) rfl rfl rfl ?_
        refine p_goto (cc3 c144_66) ?_
        exact p_lc (ls' := [(0, .ref m), (1, .int x1), (2, .int x2), (3, .int x3), (4, .int 0), (5, .int (x5 + 1))]) c144_6 rfl rfl h
      · have h := h.2 c
        refine p_ald (cc3 c144_38) rfl ?_
        refine pm_getp hΦ (cc3 c144_39) (c := 10) rfl (by decide) ?_
        refine p_push (cc3 c144_42) ?_
        refine p_ild (cc3 c144_44) rfl ?_
        refine p_bin (cc3 c144_45) ?_
        refine p_ild (cc3 c144_46) rfl ?_
        refine p_bin (cc3 c144_48) ?_
        obtain ⟨g, h⟩ := h
        refine pm_aldi hΦ (c := 10) (n := 50) (cc3 c144_49) (by decide) rfl rfl rfl g rfl ?_
        refine p_ild (cc3 c144_50) rfl ?_
        refine p_ild (cc3 c144_51) rfl ?_
        refine p_bin (cc3 c144_52) ?_
        refine p_icmp (cc3 c144_53) (fun c => ?_) (fun c => ?_)
        · have h := h.1 c
          refine p_lc (ls' := [(0, .ref m), (1, .int x1), (2, .int x2), (3, .int x3), (5, .int x5)]) c144_60 rfl rfl ?_
          refine p_push (cct c144_60 rfl) ?_
          refine p_ist (ls' := [(4, .int 0), (0, .ref m), (1, .int x1), (2, .int x2), (3, .int x3), (5, .int x5)]) (cct c144_61 rfl) (by decide) rfl ?_
          refine p_iinc (y := x5 + 1) (ls' := [(5, .int (x5 + 1)), (4, .int 0), (0, .ref m), (1, .int x1), (2, .int x2), (3, .int x3)]) (cc3 c144_63) (by decide) rfl rfl rfl ?_
          refine p_goto (cc3 c144_66) ?_
          exact p_lc (ls' := [(0, .ref m), (1, .int x1), (2, .int x2), (3, .int x3), (4, .int 0), (5, .int (x5 + 1))]) c144_6 rfl rfl h
        · have h := h.2 c
          refine p_lc (ls' := [(0, .ref m), (1, .int x1), (2, .int x2), (3, .int x3), (5, .int x5)]) c144_56 rfl rfl ?_
          refine p_push (cct c144_56 rfl) ?_
          refine p_goto (cc3 c144_57) ?_
          refine p_ist (ls' := [(4, .int 1), (0, .ref m), (1, .int x1), (2, .int x2), (3, .int x3), (5, .int x5)]) (cct c144_61 rfl) (by decide) rfl ?_
          refine p_iinc (y := x5 + 1) (ls' := [(5, .int (x5 + 1)), (4, .int 1), (0, .ref m), (1, .int x1), (2, .int x2), (3, .int x3)]) (cc3 c144_63) (by decide) rfl rfl rfl ?_
          refine p_goto (cc3 c144_66) ?_
          exact p_lc (ls' := [(0, .ref m), (1, .int x1), (2, .int x2), (3, .int x3), (4, .int 1), (5, .int (x5 + 1))]) c144_6 rfl rfl h
    · have h := h.2 c
      refine p_lc (ls' := [(0, .ref m), (1, .int x1), (2, .int x2), (3, .int x3), (5, .int x5)]) c144_56 rfl rfl ?_
      refine p_push (cct c144_56 rfl) ?_
      refine p_goto (cc3 c144_57) ?_
      refine p_ist (ls' := [(4, .int 1), (0, .ref m), (1, .int x1), (2, .int x2), (3, .int x3), (5, .int x5)]) (cct c144_61 rfl) (by decide) rfl ?_
      refine p_iinc (y := x5 + 1) (ls' := [(5, .int (x5 + 1)), (4, .int 1), (0, .ref m), (1, .int x1), (2, .int x2), (3, .int x3)]) (cc3 c144_63) (by decide) rfl rfl rfl ?_
      refine p_goto (cc3 c144_66) ?_
      exact p_lc (ls' := [(0, .ref m), (1, .int x1), (2, .int x2), (3, .int x3), (4, .int 1), (5, .int (x5 + 1))]) c144_6 rfl rfl h
theorem B145_0 {ev : xV} {Q : Option Value → xM → Prop} {m : Nat} {Φ : (Nat → Nat → Int32) → xM} (hΦ : MLaw m Φ) {μ : Nat → Nat → Int32} {x1 x2 x3 x4 : Int32} (h : (∃ r μ', ev 129 [.ref m, .int x1, .int 0, .int 5] (Φ μ) (some (.int r)) (Φ μ') ∧ wpE (xT 145) ev Q (31, [(8, .int (x3 - x3 / 100 * 100)), (7, .int (x3 / 100)), (6, .int (x2 - x2 / 100 * 100)), (5, .int (x2 / 100)), (0, .ref m), (1, .int x1), (2, .int x2), (3, .int x3), (4, .int x4)], [.int r], Φ μ'))) : wpE (xT 145) ev Q (0, [(0, .ref m), (1, .int x1), (2, .int x2), (3, .int x3), (4, .int x4)], [], Φ μ) := by
  refine p_ild (cc3 c145_0) rfl ?_
  refine p_push (cc3 c145_1) ?_
  refine p_div (cc3 c145_3) (by decide) ?_
  refine p_ist (ls' := [(5, .int (x2 / 100)), (0, .ref m), (1, .int x1), (2, .int x2), (3, .int x3), (4, .int x4)]) (cc3 c145_4) (by decide) rfl ?_
  refine p_ild (cc3 c145_6) rfl ?_
  refine p_push (cc3 c145_7) ?_
  refine p_div (cc3 c145_9) (by decide) ?_
  refine p_ist (ls' := [(6, .int (x2 - x2 / 100 * 100)), (5, .int (x2 / 100)), (0, .ref m), (1, .int x1), (2, .int x2), (3, .int x3), (4, .int x4)]) (cc3 c145_10) (by decide) rfl ?_
  refine p_ild (cc3 c145_12) rfl ?_
  refine p_push (cc3 c145_13) ?_
  refine p_div (cc3 c145_15) (by decide) ?_
  refine p_ist (ls' := [(7, .int (x3 / 100)), (6, .int (x2 - x2 / 100 * 100)), (5, .int (x2 / 100)), (0, .ref m), (1, .int x1), (2, .int x2), (3, .int x3), (4, .int x4)]) (cc3 c145_16) (by decide) rfl ?_
  refine p_ild (cc3 c145_18) rfl ?_
  refine p_push (cc3 c145_19) ?_
  refine p_div (cc3 c145_21) (by decide) ?_
  refine p_ist (ls' := [(8, .int (x3 - x3 / 100 * 100)), (7, .int (x3 / 100)), (6, .int (x2 - x2 / 100 * 100)), (5, .int (x2 / 100)), (0, .ref m), (1, .int x1), (2, .int x2), (3, .int x3), (4, .int x4)]) (cc3 c145_22) (by decide) rfl ?_
  refine p_ald (cc3 c145_24) rfl ?_
  refine p_ild (cc3 c145_25) rfl ?_
  refine p_push (cc3 c145_26) ?_
  refine p_push (cc3 c145_27) ?_
  obtain ⟨r, μ', he, h⟩ := h
  exact p_callV (cc3 c145_28) (Nat.le_of_ble_eq_true rfl) rfl rfl (Nat.le_of_ble_eq_true rfl) (ml_kd hΦ) he h
theorem B145_31 {ev : xV} {Q : Option Value → xM → Prop} {m : Nat} {Φ : (Nat → Nat → Int32) → xM} (hΦ : MLaw m Φ) {μ : Nat → Nat → Int32} {x8 x7 x6 x5 x1 x2 x3 x4 s0 : Int32} (h : ((s0 = 0) → Q (some (.int ((-2)))) (Φ μ)) ∧ (¬ (s0 = 0) → (∃ r μ', ev 129 [.ref m, .int x5, .int 4, .int 40] (Φ μ) (some (.int r)) (Φ μ') ∧ wpE (xT 145) ev Q (43, [(8, .int x8), (7, .int x7), (6, .int x6), (5, .int x5), (0, .ref m), (1, .int x1), (2, .int x2), (3, .int x3), (4, .int x4)], [.int r], Φ μ')))) : wpE (xT 145) ev Q (31, [(8, .int x8), (7, .int x7), (6, .int x6), (5, .int x5), (0, .ref m), (1, .int x1), (2, .int x2), (3, .int x3), (4, .int x4)], [.int s0], Φ μ) := by
  refine p_if (cc3 c145_31) (fun c => ?_) (fun c => ?_)
  · have h := h.1 c
    refine p_lc (ls' := []) c145_96 rfl rfl ?_
    refine p_push (cct c145_96 rfl) ?_
    exact p_ri (cc3 c145_98) trivial h
  · have h := h.2 c
    refine p_ald (cc3 c145_34) rfl ?_
    refine p_ild (cc3 c145_35) rfl ?_
    refine p_push (cc3 c145_37) ?_
    refine p_push (cc3 c145_38) ?_
    obtain ⟨r, μ', he, h⟩ := h
    exact p_callV (cc3 c145_40) (Nat.le_of_ble_eq_true rfl) rfl rfl (Nat.le_of_ble_eq_true rfl) (ml_kd hΦ) he h
theorem B145_43 {ev : xV} {Q : Option Value → xM → Prop} {m : Nat} {Φ : (Nat → Nat → Int32) → xM} (hΦ : MLaw m Φ) {μ : Nat → Nat → Int32} {x8 x7 x6 x5 x1 x2 x3 x4 s0 : Int32} (h : ((s0 = 0) → Q (some (.int ((-2)))) (Φ μ)) ∧ (¬ (s0 = 0) → (∃ r μ', ev 129 [.ref m, .int x6, .int 20, .int 60] (Φ μ) (some (.int r)) (Φ μ') ∧ wpE (xT 145) ev Q (56, [(8, .int x8), (7, .int x7), (6, .int x6), (5, .int x5), (0, .ref m), (1, .int x1), (2, .int x2), (3, .int x3), (4, .int x4)], [.int r], Φ μ')))) : wpE (xT 145) ev Q (43, [(8, .int x8), (7, .int x7), (6, .int x6), (5, .int x5), (0, .ref m), (1, .int x1), (2, .int x2), (3, .int x3), (4, .int x4)], [.int s0], Φ μ) := by
  refine p_if (cc3 c145_43) (fun c => ?_) (fun c => ?_)
  · have h := h.1 c
    refine p_lc (ls' := []) c145_96 rfl rfl ?_
    refine p_push (cct c145_96 rfl) ?_
    exact p_ri (cc3 c145_98) trivial h
  · have h := h.2 c
    refine p_ald (cc3 c145_46) rfl ?_
    refine p_ild (cc3 c145_47) rfl ?_
    refine p_push (cc3 c145_49) ?_
    refine p_push (cc3 c145_51) ?_
    obtain ⟨r, μ', he, h⟩ := h
    exact p_callV (cc3 c145_53) (Nat.le_of_ble_eq_true rfl) rfl rfl (Nat.le_of_ble_eq_true rfl) (ml_kd hΦ) he h
theorem B145_56 {ev : xV} {Q : Option Value → xM → Prop} {m : Nat} {Φ : (Nat → Nat → Int32) → xM} (hΦ : MLaw m Φ) {μ : Nat → Nat → Int32} {x8 x7 x6 x5 x1 x2 x3 x4 s0 : Int32} (h : ((s0 = 0) → Q (some (.int ((-2)))) (Φ μ)) ∧ (¬ (s0 = 0) → (∃ r μ', ev 129 [.ref m, .int x7, .int 4, .int 24] (Φ μ) (some (.int r)) (Φ μ') ∧ wpE (xT 145) ev Q (68, [(8, .int x8), (7, .int x7), (6, .int x6), (5, .int x5), (0, .ref m), (1, .int x1), (2, .int x2), (3, .int x3), (4, .int x4)], [.int r], Φ μ')))) : wpE (xT 145) ev Q (56, [(8, .int x8), (7, .int x7), (6, .int x6), (5, .int x5), (0, .ref m), (1, .int x1), (2, .int x2), (3, .int x3), (4, .int x4)], [.int s0], Φ μ) := by
  refine p_if (cc3 c145_56) (fun c => ?_) (fun c => ?_)
  · have h := h.1 c
    refine p_lc (ls' := []) c145_96 rfl rfl ?_
    refine p_push (cct c145_96 rfl) ?_
    exact p_ri (cc3 c145_98) trivial h
  · have h := h.2 c
    refine p_ald (cc3 c145_59) rfl ?_
    refine p_ild (cc3 c145_60) rfl ?_
    refine p_push (cc3 c145_62) ?_
    refine p_push (cc3 c145_63) ?_
    obtain ⟨r, μ', he, h⟩ := h
    exact p_callV (cc3 c145_65) (Nat.le_of_ble_eq_true rfl) rfl rfl (Nat.le_of_ble_eq_true rfl) (ml_kd hΦ) he h
theorem B145_68 {ev : xV} {Q : Option Value → xM → Prop} {m : Nat} {Φ : (Nat → Nat → Int32) → xM} (hΦ : MLaw m Φ) {μ : Nat → Nat → Int32} {x8 x7 x6 x5 x1 x2 x3 x4 s0 : Int32} (h : ((s0 = 0) → Q (some (.int ((-2)))) (Φ μ)) ∧ (¬ (s0 = 0) → (∃ r μ', ev 129 [.ref m, .int x8, .int 20, .int x6] (Φ μ) (some (.int r)) (Φ μ') ∧ wpE (xT 145) ev Q (81, [(8, .int x8), (7, .int x7), (6, .int x6), (5, .int x5), (0, .ref m), (1, .int x1), (2, .int x2), (3, .int x3), (4, .int x4)], [.int r], Φ μ')))) : wpE (xT 145) ev Q (68, [(8, .int x8), (7, .int x7), (6, .int x6), (5, .int x5), (0, .ref m), (1, .int x1), (2, .int x2), (3, .int x3), (4, .int x4)], [.int s0], Φ μ) := by
  refine p_if (cc3 c145_68) (fun c => ?_) (fun c => ?_)
  · have h := h.1 c
    refine p_lc (ls' := []) c145_96 rfl rfl ?_
    refine p_push (cct c145_96 rfl) ?_
    exact p_ri (cc3 c145_98) trivial h
  · have h := h.2 c
    refine p_ald (cc3 c145_71) rfl ?_
    refine p_ild (cc3 c145_72) rfl ?_
    refine p_push (cc3 c145_74) ?_
    refine p_ild (cc3 c145_76) rfl ?_
    obtain ⟨r, μ', he, h⟩ := h
    exact p_callV (cc3 c145_78) (Nat.le_of_ble_eq_true rfl) rfl rfl (Nat.le_of_ble_eq_true rfl) (ml_kd hΦ) he h
theorem B145_81 {ev : xV} {Q : Option Value → xM → Prop} {m : Nat} {Φ : (Nat → Nat → Int32) → xM} (hΦ : MLaw m Φ) {μ : Nat → Nat → Int32} {x8 x7 x6 x5 x1 x2 x3 x4 s0 : Int32} (h : ((s0 = 0) → Q (some (.int ((-2)))) (Φ μ)) ∧ (¬ (s0 = 0) → (∃ r μ', ev 129 [.ref m, .int x4, .int 0, .int 9] (Φ μ) (some (.int r)) (Φ μ') ∧ wpE (xT 145) ev Q (93, [(8, .int x8), (7, .int x7), (6, .int x6), (5, .int x5), (0, .ref m), (1, .int x1), (2, .int x2), (3, .int x3), (4, .int x4)], [.int r], Φ μ')))) : wpE (xT 145) ev Q (81, [(8, .int x8), (7, .int x7), (6, .int x6), (5, .int x5), (0, .ref m), (1, .int x1), (2, .int x2), (3, .int x3), (4, .int x4)], [.int s0], Φ μ) := by
  refine p_if (cc3 c145_81) (fun c => ?_) (fun c => ?_)
  · have h := h.1 c
    refine p_lc (ls' := []) c145_96 rfl rfl ?_
    refine p_push (cct c145_96 rfl) ?_
    exact p_ri (cc3 c145_98) trivial h
  · have h := h.2 c
    refine p_ald (cc3 c145_84) rfl ?_
    refine p_ild (cc3 c145_85) rfl ?_
    refine p_push (cc3 c145_87) ?_
    refine p_push (cc3 c145_88) ?_
    obtain ⟨r, μ', he, h⟩ := h
    exact p_callV (cc3 c145_90) (Nat.le_of_ble_eq_true rfl) rfl rfl (Nat.le_of_ble_eq_true rfl) (ml_kd hΦ) he h
theorem B145_93 {ev : xV} {Q : Option Value → xM → Prop} {m : Nat} {Φ : (Nat → Nat → Int32) → xM} (hΦ : MLaw m Φ) {μ : Nat → Nat → Int32} {x8 x7 x6 x5 x1 x2 x3 x4 s0 : Int32} (h : ((s0 = 0) → Q (some (.int ((-2)))) (Φ μ)) ∧ (¬ (s0 = 0) → (¬ (2 * x7) = 0) ∧ (((((x6 - x8) * x5) / 2) ≤ (x7 * (((x6 * x5) / (2 * x7)) - 1))) → (((μ 0 13) = 8) → Q (some (.int ((-4)))) (Φ μ)) ∧ (¬ ((μ 0 13) = 8) → vp_in (μ 0 13) 8 ∧ vp_in (μ 0 13) 8 ∧ vp_in (μ 0 13) 8 ∧ vp_in (μ 0 13) 8 ∧ vp_in (μ 0 13) 8 ∧ vp_in (μ 0 13) 8 ∧ vp_in (μ 0 13) 8 ∧ vp_in (μ 0 13) 8 ∧ vp_in (μ 0 13) 8 ∧ vp_in (μ 0 13) 8 ∧ Q (some (.int (((μ 0 13) + 1) - 1))) (Φ (U (U (U (U (U (U (U (U (U (U (U μ 11 ((μ 0 13).toNatClampNeg) x1) 12 ((μ 0 13).toNatClampNeg) x5) 13 ((μ 0 13).toNatClampNeg) x6) 14 ((μ 0 13).toNatClampNeg) x8) 15 ((μ 0 13).toNatClampNeg) x7) 16 ((μ 0 13).toNatClampNeg) x4) 17 ((μ 0 13).toNatClampNeg) ((x6 * x5) / (2 * x7))) 18 ((μ 0 13).toNatClampNeg) ((x6 * x5) - (x7 * ((x6 * x5) / (2 * x7))))) 19 ((μ 0 13).toNatClampNeg) (((x6 - x8) * x5) / 2)) 20 ((μ 0 13).toNatClampNeg) (-1)) 0 13 ((μ 0 13) + 1))))) ∧ (¬ ((((x6 - x8) * x5) / 2) ≤ (x7 * (((x6 * x5) / (2 * x7)) - 1))) → Q (some (.int ((-2)))) (Φ μ)))) : wpE (xT 145) ev Q (93, [(8, .int x8), (7, .int x7), (6, .int x6), (5, .int x5), (0, .ref m), (1, .int x1), (2, .int x2), (3, .int x3), (4, .int x4)], [.int s0], Φ μ) := by
  refine p_if (cc3 c145_93) (fun c => ?_) (fun c => ?_)
  · have h := h.1 c
    refine p_lc (ls' := []) c145_96 rfl rfl ?_
    refine p_push (cct c145_96 rfl) ?_
    exact p_ri (cc3 c145_98) trivial h
  · have h := h.2 c
    refine p_ild (cc3 c145_99) rfl ?_
    refine p_ild (cc3 c145_101) rfl ?_
    refine p_bin (cc3 c145_103) ?_
    refine p_push (cc3 c145_104) ?_
    refine p_ild (cc3 c145_105) rfl ?_
    refine p_bin (cc3 c145_107) ?_
    obtain ⟨g, h⟩ := h
    refine p_div (cc3 c145_108) g ?_
    refine p_ist (ls' := [(9, .int ((x6 * x5) / (2 * x7))), (8, .int x8), (7, .int x7), (6, .int x6), (5, .int x5), (0, .ref m), (1, .int x1), (2, .int x2), (3, .int x3), (4, .int x4)]) (cc3 c145_109) (by decide) rfl ?_
    refine p_ild (cc3 c145_111) rfl ?_
    refine p_ild (cc3 c145_113) rfl ?_
    refine p_bin (cc3 c145_115) ?_
    refine p_ild (cc3 c145_116) rfl ?_
    refine p_bin (cc3 c145_118) ?_
    refine p_push (cc3 c145_119) ?_
    refine p_div (cc3 c145_120) (by decide) ?_
    refine p_ist (ls' := [(10, .int (((x6 - x8) * x5) / 2)), (9, .int ((x6 * x5) / (2 * x7))), (8, .int x8), (7, .int x7), (6, .int x6), (5, .int x5), (0, .ref m), (1, .int x1), (2, .int x2), (3, .int x3), (4, .int x4)]) (cc3 c145_121) (by decide) rfl ?_
    refine p_ild (cc3 c145_123) rfl ?_
    refine p_ild (cc3 c145_125) rfl ?_
    refine p_ild (cc3 c145_127) rfl ?_
    refine p_push (cc3 c145_129) ?_
    refine p_bin (cc3 c145_130) ?_
    refine p_bin (cc3 c145_131) ?_
    refine p_icmp (cc3 c145_132) (fun c => ?_) (fun c => ?_)
    · have h := h.1 c
      refine p_ald (cc3 c145_138) rfl ?_
      refine pm_geti hΦ (v := μ 0 13) (cc3 c145_139) rfl ?_
      refine p_push (cc3 c145_142) ?_
      refine p_icmp (cc3 c145_144) (fun c => ?_) (fun c => ?_)
      · have h := h.1 c
        refine p_push (cc3 c145_147) ?_
        exact p_ri (cc3 c145_149) trivial h
      · have h := h.2 c
        refine p_ald (cc3 c145_150) rfl ?_
        refine pm_getp hΦ (cc3 c145_151) (c := 11) rfl (by decide) ?_
        refine p_ald (cc3 c145_154) rfl ?_
        refine pm_geti hΦ (v := μ 0 13) (cc3 c145_155) rfl ?_
        refine p_ild (cc3 c145_158) rfl ?_
        obtain ⟨g, h⟩ := h
        refine pm_asti hΦ (c := 11) (n := 8) (cc3 c145_159) (by decide) rfl rfl rfl g ?_
        refine p_ald (cc3 c145_160) rfl ?_
        refine pm_getp hΦ (cc3 c145_161) (c := 12) rfl (by decide) ?_
        refine p_ald (cc3 c145_164) rfl ?_
        refine pm_geti hΦ (v := μ 0 13) (cc3 c145_165) rfl ?_
        refine p_ild (cc3 c145_168) rfl ?_
        obtain ⟨g, h⟩ := h
        refine pm_asti hΦ (c := 12) (n := 8) (cc3 c145_170) (by decide) rfl rfl rfl g ?_
        refine p_ald (cc3 c145_171) rfl ?_
        refine pm_getp hΦ (cc3 c145_172) (c := 13) rfl (by decide) ?_
        refine p_ald (cc3 c145_175) rfl ?_
        refine pm_geti hΦ (v := μ 0 13) (cc3 c145_176) rfl ?_
        refine p_ild (cc3 c145_179) rfl ?_
        obtain ⟨g, h⟩ := h
        refine pm_asti hΦ (c := 13) (n := 8) (cc3 c145_181) (by decide) rfl rfl rfl g ?_
        refine p_ald (cc3 c145_182) rfl ?_
        refine pm_getp hΦ (cc3 c145_183) (c := 14) rfl (by decide) ?_
        refine p_ald (cc3 c145_186) rfl ?_
        refine pm_geti hΦ (v := μ 0 13) (cc3 c145_187) rfl ?_
        refine p_ild (cc3 c145_190) rfl ?_
        obtain ⟨g, h⟩ := h
        refine pm_asti hΦ (c := 14) (n := 8) (cc3 c145_192) (by decide) rfl rfl rfl g ?_
        refine p_ald (cc3 c145_193) rfl ?_
        refine pm_getp hΦ (cc3 c145_194) (c := 15) rfl (by decide) ?_
        refine p_ald (cc3 c145_197) rfl ?_
        refine pm_geti hΦ (v := μ 0 13) (cc3 c145_198) rfl ?_
        refine p_ild (cc3 c145_201) rfl ?_
        obtain ⟨g, h⟩ := h
        refine pm_asti hΦ (c := 15) (n := 8) (cc3 c145_203) (by decide) rfl rfl rfl g ?_
        refine p_ald (cc3 c145_204) rfl ?_
        refine pm_getp hΦ (cc3 c145_205) (c := 16) rfl (by decide) ?_
        refine p_ald (cc3 c145_208) rfl ?_
        refine pm_geti hΦ (v := μ 0 13) (cc3 c145_209) rfl ?_
        refine p_ild (cc3 c145_212) rfl ?_
        obtain ⟨g, h⟩ := h
        refine pm_asti hΦ (c := 16) (n := 8) (cc3 c145_214) (by decide) rfl rfl rfl g ?_
        refine p_ald (cc3 c145_215) rfl ?_
        refine pm_getp hΦ (cc3 c145_216) (c := 17) rfl (by decide) ?_
        refine p_ald (cc3 c145_219) rfl ?_
        refine pm_geti hΦ (v := μ 0 13) (cc3 c145_220) rfl ?_
        refine p_ild (cc3 c145_223) rfl ?_
        obtain ⟨g, h⟩ := h
        refine pm_asti hΦ (c := 17) (n := 8) (cc3 c145_225) (by decide) rfl rfl rfl g ?_
        refine p_ald (cc3 c145_226) rfl ?_
        refine pm_getp hΦ (cc3 c145_227) (c := 18) rfl (by decide) ?_
        refine p_ald (cc3 c145_230) rfl ?_
        refine pm_geti hΦ (v := μ 0 13) (cc3 c145_231) rfl ?_
        refine p_ild (cc3 c145_234) rfl ?_
        refine p_ild (cc3 c145_236) rfl ?_
        refine p_bin (cc3 c145_238) ?_
        refine p_ild (cc3 c145_239) rfl ?_
        refine p_ild (cc3 c145_241) rfl ?_
        refine p_bin (cc3 c145_243) ?_
        refine p_bin (cc3 c145_244) ?_
        obtain ⟨g, h⟩ := h
        refine pm_asti hΦ (c := 18) (n := 8) (cc3 c145_245) (by decide) rfl rfl rfl g ?_
        refine p_ald (cc3 c145_246) rfl ?_
        refine pm_getp hΦ (cc3 c145_247) (c := 19) rfl (by decide) ?_
        refine p_ald (cc3 c145_250) rfl ?_
        refine pm_geti hΦ (v := μ 0 13) (cc3 c145_251) rfl ?_
        refine p_ild (cc3 c145_254) rfl ?_
        obtain ⟨g, h⟩ := h
        refine pm_asti hΦ (c := 19) (n := 8) (cc3 c145_256) (by decide) rfl rfl rfl g ?_
        refine p_ald (cc3 c145_257) rfl ?_
        refine pm_getp hΦ (cc3 c145_258) (c := 20) rfl (by decide) ?_
        refine p_ald (cc3 c145_261) rfl ?_
        refine pm_geti hΦ (v := μ 0 13) (cc3 c145_262) rfl ?_
        refine p_push (cc3 c145_265) ?_
        obtain ⟨g, h⟩ := h
        refine pm_asti hΦ (c := 20) (n := 8) (cc3 c145_266) (by decide) rfl rfl rfl g ?_
        refine p_ald (cc3 c145_267) rfl ?_
        refine p_dup (cc3 c145_268) rfl ?_
        refine pm_geti hΦ (v := μ 0 13) (cc3 c145_269) rfl ?_
        refine p_push (cc3 c145_272) ?_
        refine p_bin (cc3 c145_273) ?_
        refine pm_puti hΦ (cc3 c145_274) ?_
        refine p_ald (cc3 c145_277) rfl ?_
        refine pm_geti hΦ (v := (μ 0 13) + 1) (cc3 c145_278) rfl ?_
        refine p_push (cc3 c145_281) ?_
        refine p_bin (cc3 c145_282) ?_
        exact p_ri (cc3 c145_283) trivial h
    · have h := h.2 c
      refine p_push (cc3 c145_135) ?_
      exact p_ri (cc3 c145_137) trivial h
theorem B146_0 {ev : xV} {Q : Option Value → xM → Prop} {m : Nat} {Φ : (Nat → Nat → Int32) → xM} (hΦ : MLaw m Φ) {μ : Nat → Nat → Int32} {x1 x2 : Int32} (h : (∃ r μ', ev 147 [.ref m, .int x1] (Φ μ) (some (.int r)) (Φ μ') ∧ wpE (xT 146) ev Q (5, [(0, .ref m), (1, .int x1), (2, .int x2)], [.int r], Φ μ'))) : wpE (xT 146) ev Q (0, [(0, .ref m), (1, .int x1), (2, .int x2)], [], Φ μ) := by
  refine p_ald (cc3 c146_0) rfl ?_
  refine p_ild (cc3 c146_1) rfl ?_
  obtain ⟨r, μ', he, h⟩ := h
  exact p_callV (cc3 c146_2) (Nat.le_of_ble_eq_true rfl) rfl rfl (Nat.le_of_ble_eq_true rfl) (ml_kd hΦ) he h
theorem B146_5 {ev : xV} {Q : Option Value → xM → Prop} {m : Nat} {Φ : (Nat → Nat → Int32) → xM} (hΦ : MLaw m Φ) {μ : Nat → Nat → Int32} {x1 x2 s0 : Int32} (h : ((s0 = 0) → Q (some (.int ((-2)))) (Φ μ)) ∧ (¬ (s0 = 0) → ((x2 = 0) → vp_in x1 8 ∧ Q (some (.int (μ 11 x1.toNatClampNeg))) (Φ μ)) ∧ (¬ (x2 = 0) → ((x2 = 1) → vp_in x1 8 ∧ Q (some (.int (μ 17 x1.toNatClampNeg))) (Φ μ)) ∧ (¬ (x2 = 1) → ((x2 = 2) → vp_in x1 8 ∧ Q (some (.int (μ 18 x1.toNatClampNeg))) (Φ μ)) ∧ (¬ (x2 = 2) → ((x2 = 3) → vp_in x1 8 ∧ Q (some (.int (μ 19 x1.toNatClampNeg))) (Φ μ)) ∧ (¬ (x2 = 3) → ((x2 = 4) → vp_in x1 8 ∧ Q (some (.int (μ 15 x1.toNatClampNeg))) (Φ μ)) ∧ (¬ (x2 = 4) → ((x2 = 5) → vp_in x1 8 ∧ Q (some (.int (μ 20 x1.toNatClampNeg))) (Φ μ)) ∧ (¬ (x2 = 5) → ((x2 = 6) → vp_in x1 8 ∧ ((0 ≤ (μ 20 x1.toNatClampNeg)) → vp_in x1 8 ∧ Q (some (.int (μ 25 x1.toNatClampNeg))) (Φ μ)) ∧ (¬ (0 ≤ (μ 20 x1.toNatClampNeg)) → Q (some (.int ((-1)))) (Φ μ))) ∧ (¬ (x2 = 6) → ((x2 = 7) → vp_in x1 8 ∧ (((μ 20 x1.toNatClampNeg) < 0) → Q (some (.int 0)) (Φ μ)) ∧ (¬ ((μ 20 x1.toNatClampNeg) < 0) → vp_in x1 8 ∧ (((μ 28 x1.toNatClampNeg) = 0) → Q (some (.int 0)) (Φ μ)) ∧ (¬ ((μ 28 x1.toNatClampNeg) = 0) → Q (some (.int 1)) (Φ μ)))) ∧ (¬ (x2 = 7) → ((x2 = 8) → vp_in x1 8 ∧ Q (some (.int (μ 12 x1.toNatClampNeg))) (Φ μ)) ∧ (¬ (x2 = 8) → ((x2 = 9) → vp_in x1 8 ∧ Q (some (.int (μ 13 x1.toNatClampNeg))) (Φ μ)) ∧ (¬ (x2 = 9) → ((x2 = 10) → vp_in x1 8 ∧ Q (some (.int (μ 14 x1.toNatClampNeg))) (Φ μ)) ∧ (¬ (x2 = 10) → Q (some (.int ((-2)))) (Φ μ)))))))))))))) : wpE (xT 146) ev Q (5, [(0, .ref m), (1, .int x1), (2, .int x2)], [.int s0], Φ μ) := by
  refine p_if (cc3 c146_5) (fun c => ?_) (fun c => ?_)
  · have h := h.1 c
    refine p_push (cc3 c146_8) ?_
    exact p_ri (cc3 c146_10) trivial h
  · have h := h.2 c
    refine p_ild (cc3 c146_11) rfl ?_
    refine p_sw (cc3 c146_12) ?_
    refine ⟨fun c => ?_, fun c => ?_⟩
    · have h := h.1 c
      refine p_ald (cc3 c146_72) rfl ?_
      refine pm_getp hΦ (cc3 c146_73) (c := 11) rfl (by decide) ?_
      refine p_ild (cc3 c146_76) rfl ?_
      obtain ⟨g, h⟩ := h
      refine pm_aldi hΦ (c := 11) (n := 8) (cc3 c146_77) (by decide) rfl rfl rfl g rfl ?_
      exact p_ri (cc3 c146_78) trivial h
    · have h := h.2 c
      refine ⟨fun c => ?_, fun c => ?_⟩
      · have h := h.1 c
        refine p_ald (cc3 c146_79) rfl ?_
        refine pm_getp hΦ (cc3 c146_80) (c := 17) rfl (by decide) ?_
        refine p_ild (cc3 c146_83) rfl ?_
        obtain ⟨g, h⟩ := h
        refine pm_aldi hΦ (c := 17) (n := 8) (cc3 c146_84) (by decide) rfl rfl rfl g rfl ?_
        exact p_ri (cc3 c146_85) trivial h
      · have h := h.2 c
        refine ⟨fun c => ?_, fun c => ?_⟩
        · have h := h.1 c
          refine p_ald (cc3 c146_86) rfl ?_
          refine pm_getp hΦ (cc3 c146_87) (c := 18) rfl (by decide) ?_
          refine p_ild (cc3 c146_90) rfl ?_
          obtain ⟨g, h⟩ := h
          refine pm_aldi hΦ (c := 18) (n := 8) (cc3 c146_91) (by decide) rfl rfl rfl g rfl ?_
          exact p_ri (cc3 c146_92) trivial h
        · have h := h.2 c
          refine ⟨fun c => ?_, fun c => ?_⟩
          · have h := h.1 c
            refine p_ald (cc3 c146_93) rfl ?_
            refine pm_getp hΦ (cc3 c146_94) (c := 19) rfl (by decide) ?_
            refine p_ild (cc3 c146_97) rfl ?_
            obtain ⟨g, h⟩ := h
            refine pm_aldi hΦ (c := 19) (n := 8) (cc3 c146_98) (by decide) rfl rfl rfl g rfl ?_
            exact p_ri (cc3 c146_99) trivial h
          · have h := h.2 c
            refine ⟨fun c => ?_, fun c => ?_⟩
            · have h := h.1 c
              refine p_ald (cc3 c146_100) rfl ?_
              refine pm_getp hΦ (cc3 c146_101) (c := 15) rfl (by decide) ?_
              refine p_ild (cc3 c146_104) rfl ?_
              obtain ⟨g, h⟩ := h
              refine pm_aldi hΦ (c := 15) (n := 8) (cc3 c146_105) (by decide) rfl rfl rfl g rfl ?_
              exact p_ri (cc3 c146_106) trivial h
            · have h := h.2 c
              refine ⟨fun c => ?_, fun c => ?_⟩
              · have h := h.1 c
                refine p_ald (cc3 c146_107) rfl ?_
                refine pm_getp hΦ (cc3 c146_108) (c := 20) rfl (by decide) ?_
                refine p_ild (cc3 c146_111) rfl ?_
                obtain ⟨g, h⟩ := h
                refine pm_aldi hΦ (c := 20) (n := 8) (cc3 c146_112) (by decide) rfl rfl rfl g rfl ?_
                exact p_ri (cc3 c146_113) trivial h
              · have h := h.2 c
                refine ⟨fun c => ?_, fun c => ?_⟩
                · have h := h.1 c
                  refine p_ald (cc3 c146_114) rfl ?_
                  refine pm_getp hΦ (cc3 c146_115) (c := 20) rfl (by decide) ?_
                  refine p_ild (cc3 c146_118) rfl ?_
                  obtain ⟨g, h⟩ := h
                  refine pm_aldi hΦ (c := 20) (n := 8) (cc3 c146_119) (by decide) rfl rfl rfl g rfl ?_
                  refine p_if (cc3 c146_120) (fun c => ?_) (fun c => ?_)
                  · have h := h.1 c
                    refine p_ald (cc3 c146_127) rfl ?_
                    refine pm_getp hΦ (cc3 c146_128) (c := 25) rfl (by decide) ?_
                    refine p_ild (cc3 c146_131) rfl ?_
                    obtain ⟨g, h⟩ := h
                    refine pm_aldi hΦ (c := 25) (n := 8) (cc3 c146_132) (by decide) rfl rfl rfl g rfl ?_
                    refine p_lc (ls' := []) c146_133 rfl rfl ?_
                    exact p_ri (cct c146_133 rfl) trivial h
                  · have h := h.2 c
                    refine p_push (cc3 c146_123) ?_
                    refine p_goto (cc3 c146_124) ?_
                    refine p_lc (ls' := []) c146_133 rfl rfl ?_
                    exact p_ri (cct c146_133 rfl) trivial h
                · have h := h.2 c
                  refine ⟨fun c => ?_, fun c => ?_⟩
                  · have h := h.1 c
                    refine p_ald (cc3 c146_134) rfl ?_
                    refine pm_getp hΦ (cc3 c146_135) (c := 20) rfl (by decide) ?_
                    refine p_ild (cc3 c146_138) rfl ?_
                    obtain ⟨g, h⟩ := h
                    refine pm_aldi hΦ (c := 20) (n := 8) (cc3 c146_139) (by decide) rfl rfl rfl g rfl ?_
                    refine p_if (cc3 c146_140) (fun c => ?_) (fun c => ?_)
                    · have h := h.1 c
                      refine p_lc (ls' := []) c146_156 rfl rfl ?_
                      refine p_push (cct c146_156 rfl) ?_
                      exact p_ri (cct c146_157 rfl) trivial h
                    · have h := h.2 c
                      refine p_ald (cc3 c146_143) rfl ?_
                      refine pm_getp hΦ (cc3 c146_144) (c := 28) rfl (by decide) ?_
                      refine p_ild (cc3 c146_147) rfl ?_
                      obtain ⟨g, h⟩ := h
                      refine pm_aldi hΦ (c := 28) (n := 8) (cc3 c146_148) (by decide) rfl rfl rfl g rfl ?_
                      refine p_if (cc3 c146_149) (fun c => ?_) (fun c => ?_)
                      · have h := h.1 c
                        refine p_lc (ls' := []) c146_156 rfl rfl ?_
                        refine p_push (cct c146_156 rfl) ?_
                        exact p_ri (cct c146_157 rfl) trivial h
                      · have h := h.2 c
                        refine p_push (cc3 c146_152) ?_
                        refine p_goto (cc3 c146_153) ?_
                        refine p_lc (ls' := []) c146_157 rfl rfl ?_
                        exact p_ri (cct c146_157 rfl) trivial h
                  · have h := h.2 c
                    refine ⟨fun c => ?_, fun c => ?_⟩
                    · have h := h.1 c
                      refine p_ald (cc3 c146_158) rfl ?_
                      refine pm_getp hΦ (cc3 c146_159) (c := 12) rfl (by decide) ?_
                      refine p_ild (cc3 c146_162) rfl ?_
                      obtain ⟨g, h⟩ := h
                      refine pm_aldi hΦ (c := 12) (n := 8) (cc3 c146_163) (by decide) rfl rfl rfl g rfl ?_
                      exact p_ri (cc3 c146_164) trivial h
                    · have h := h.2 c
                      refine ⟨fun c => ?_, fun c => ?_⟩
                      · have h := h.1 c
                        refine p_ald (cc3 c146_165) rfl ?_
                        refine pm_getp hΦ (cc3 c146_166) (c := 13) rfl (by decide) ?_
                        refine p_ild (cc3 c146_169) rfl ?_
                        obtain ⟨g, h⟩ := h
                        refine pm_aldi hΦ (c := 13) (n := 8) (cc3 c146_170) (by decide) rfl rfl rfl g rfl ?_
                        exact p_ri (cc3 c146_171) trivial h
                      · have h := h.2 c
                        refine ⟨fun c => ?_, fun c => ?_⟩
                        · have h := h.1 c
                          refine p_ald (cc3 c146_172) rfl ?_
                          refine pm_getp hΦ (cc3 c146_173) (c := 14) rfl (by decide) ?_
                          refine p_ild (cc3 c146_176) rfl ?_
                          obtain ⟨g, h⟩ := h
                          refine pm_aldi hΦ (c := 14) (n := 8) (cc3 c146_177) (by decide) rfl rfl rfl g rfl ?_
                          exact p_ri (cc3 c146_178) trivial h
                        · have h := h.2 c
                          refine p_push (cc3 c146_179) ?_
                          exact p_ri (cc3 c146_181) trivial h
theorem B147_0 {ev : xV} {Q : Option Value → xM → Prop} {m : Nat} {Φ : (Nat → Nat → Int32) → xM} (hΦ : MLaw m Φ) {μ : Nat → Nat → Int32} {x1 : Int32} (h : (∃ r μ', ev 129 [.ref m, .int x1, .int 0, .int ((μ 0 13) - 1)] (Φ μ) (some (.int r)) (Φ μ') ∧ wpE (xT 147) ev Q (12, [(0, .ref m), (1, .int x1)], [.int r], Φ μ'))) : wpE (xT 147) ev Q (0, [(0, .ref m), (1, .int x1)], [], Φ μ) := by
  refine p_ald (cc3 c147_0) rfl ?_
  refine p_ild (cc3 c147_1) rfl ?_
  refine p_push (cc3 c147_2) ?_
  refine p_ald (cc3 c147_3) rfl ?_
  refine pm_geti hΦ (v := μ 0 13) (cc3 c147_4) rfl ?_
  refine p_push (cc3 c147_7) ?_
  refine p_bin (cc3 c147_8) ?_
  obtain ⟨r, μ', he, h⟩ := h
  exact p_callV (cc3 c147_9) (Nat.le_of_ble_eq_true rfl) rfl rfl (Nat.le_of_ble_eq_true rfl) (ml_kd hΦ) he h
theorem B147_12 {ev : xV} {Q : Option Value → xM → Prop} {m : Nat} {Φ : (Nat → Nat → Int32) → xM} (hΦ : MLaw m Φ) {μ : Nat → Nat → Int32} {x1 s0 : Int32} (h : ((s0 = 0 ∨ s0 = 1) ∧ Q (some (.int s0)) (Φ μ))) : wpE (xT 147) ev Q (12, [(0, .ref m), (1, .int x1)], [.int s0], Φ μ) := by
  exact p_ri (cc3 c147_12) h.1 h.2
theorem B148_0 {ev : xV} {Q : Option Value → xM → Prop} {m : Nat} {Φ : (Nat → Nat → Int32) → xM} (hΦ : MLaw m Φ) {μ : Nat → Nat → Int32} {x1 x2 : Int32} (h : (∃ r μ', ev 147 [.ref m, .int x1] (Φ μ) (some (.int r)) (Φ μ') ∧ wpE (xT 148) ev Q (5, [(0, .ref m), (1, .int x1), (2, .int x2)], [.int r], Φ μ'))) : wpE (xT 148) ev Q (0, [(0, .ref m), (1, .int x1), (2, .int x2)], [], Φ μ) := by
  refine p_ald (cc3 c148_0) rfl ?_
  refine p_ild (cc3 c148_1) rfl ?_
  obtain ⟨r, μ', he, h⟩ := h
  exact p_callV (cc3 c148_2) (Nat.le_of_ble_eq_true rfl) rfl rfl (Nat.le_of_ble_eq_true rfl) (ml_kd hΦ) he h
theorem B148_5 {ev : xV} {Q : Option Value → xM → Prop} {m : Nat} {Φ : (Nat → Nat → Int32) → xM} (hΦ : MLaw m Φ) {μ : Nat → Nat → Int32} {x1 x2 s0 : Int32} (h : ((s0 = 0) → Q (some (.int ((-2)))) (Φ μ)) ∧ (¬ (s0 = 0) → (∃ r μ', ev 143 [.ref m, .int x2] (Φ μ) (some (.int r)) (Φ μ') ∧ wpE (xT 148) ev Q (13, [(0, .ref m), (1, .int x1), (2, .int x2)], [.int r], Φ μ')))) : wpE (xT 148) ev Q (5, [(0, .ref m), (1, .int x1), (2, .int x2)], [.int s0], Φ μ) := by
  refine p_if (cc3 c148_5) (fun c => ?_) (fun c => ?_)
  · have h := h.1 c
    refine p_lc (ls' := []) c148_30 rfl rfl ?_
    refine p_push (cct c148_30 rfl) ?_
    exact p_ri (cc3 c148_32) trivial h
  · have h := h.2 c
    refine p_ald (cc3 c148_8) rfl ?_
    refine p_ild (cc3 c148_9) rfl ?_
    obtain ⟨r, μ', he, h⟩ := h
    exact p_callV (cc3 c148_10) (Nat.le_of_ble_eq_true rfl) rfl rfl (Nat.le_of_ble_eq_true rfl) (ml_kd hΦ) he h
theorem B148_13 {ev : xV} {Q : Option Value → xM → Prop} {m : Nat} {Φ : (Nat → Nat → Int32) → xM} (hΦ : MLaw m Φ) {μ : Nat → Nat → Int32} {x1 x2 s0 : Int32} (h : ((s0 = 0) → Q (some (.int ((-2)))) (Φ μ)) ∧ (¬ (s0 = 0) → vp_in x2 5 ∧ (∃ r μ', ev 149 [.ref m, .int x1, .int (μ 7 x2.toNatClampNeg)] (Φ μ) (some (.int r)) (Φ μ') ∧ wpE (xT 148) ev Q (27, [(0, .ref m), (1, .int x1), (2, .int x2)], [.int r], Φ μ')))) : wpE (xT 148) ev Q (13, [(0, .ref m), (1, .int x1), (2, .int x2)], [.int s0], Φ μ) := by
  refine p_if (cc3 c148_13) (fun c => ?_) (fun c => ?_)
  · have h := h.1 c
    refine p_lc (ls' := []) c148_30 rfl rfl ?_
    refine p_push (cct c148_30 rfl) ?_
    exact p_ri (cc3 c148_32) trivial h
  · have h := h.2 c
    refine p_ald (cc3 c148_16) rfl ?_
    refine p_ild (cc3 c148_17) rfl ?_
    refine p_ald (cc3 c148_18) rfl ?_
    refine pm_getp hΦ (cc3 c148_19) (c := 7) rfl (by decide) ?_
    refine p_ild (cc3 c148_22) rfl ?_
    obtain ⟨g, h⟩ := h
    refine pm_aldi hΦ (c := 7) (n := 5) (cc3 c148_23) (by decide) rfl rfl rfl g rfl ?_
    obtain ⟨r, μ', he, h⟩ := h
    exact p_callV (cc3 c148_24) (Nat.le_of_ble_eq_true rfl) rfl rfl (Nat.le_of_ble_eq_true rfl) (ml_kd hΦ) he h
theorem B148_27 {ev : xV} {Q : Option Value → xM → Prop} {m : Nat} {Φ : (Nat → Nat → Int32) → xM} (hΦ : MLaw m Φ) {μ : Nat → Nat → Int32} {x1 x2 s0 : Int32} (h : ((s0 = 0) → Q (some (.int ((-2)))) (Φ μ)) ∧ (¬ (s0 = 0) → vp_in x2 5 ∧ (∃ r μ', ev 151 [.ref m, .int x1, .int x2, .int (μ 7 x2.toNatClampNeg)] (Φ μ) (some (.int r)) (Φ μ') ∧ wpE (xT 148) ev Q (45, [(0, .ref m), (1, .int x1), (2, .int x2)], [.int r], Φ μ')))) : wpE (xT 148) ev Q (27, [(0, .ref m), (1, .int x1), (2, .int x2)], [.int s0], Φ μ) := by
  refine p_if (cc3 c148_27) (fun c => ?_) (fun c => ?_)
  · have h := h.1 c
    refine p_lc (ls' := []) c148_30 rfl rfl ?_
    refine p_push (cct c148_30 rfl) ?_
    exact p_ri (cc3 c148_32) trivial h
  · have h := h.2 c
    refine p_ald (cc3 c148_33) rfl ?_
    refine p_ild (cc3 c148_34) rfl ?_
    refine p_ild (cc3 c148_35) rfl ?_
    refine p_ald (cc3 c148_36) rfl ?_
    refine pm_getp hΦ (cc3 c148_37) (c := 7) rfl (by decide) ?_
    refine p_ild (cc3 c148_40) rfl ?_
    obtain ⟨g, h⟩ := h
    refine pm_aldi hΦ (c := 7) (n := 5) (cc3 c148_41) (by decide) rfl rfl rfl g rfl ?_
    obtain ⟨r, μ', he, h⟩ := h
    exact p_callV (cc3 c148_42) (Nat.le_of_ble_eq_true rfl) rfl rfl (Nat.le_of_ble_eq_true rfl) (ml_kd hΦ) he h
theorem B148_45 {ev : xV} {Q : Option Value → xM → Prop} {m : Nat} {Φ : (Nat → Nat → Int32) → xM} (hΦ : MLaw m Φ) {μ : Nat → Nat → Int32} {x1 x2 s0 : Int32} (h : ((s0 = 1000000) → Q (some (.int ((-1)))) (Φ μ)) ∧ (¬ (s0 = 1000000) → vp_in x1 8 ∧ vp_in x1 8 ∧ vp_in x1 8 ∧ vp_in x1 8 ∧ vp_in x1 8 ∧ vp_in x1 8 ∧ vp_in x1 8 ∧ vp_in x1 8 ∧ wpE (xT 148) ev Q (117, [(0, .ref m), (1, .int x1), (2, .int x2), (3, .int 0)], [], Φ (U (U (U (U (U (U μ 20 x1.toNatClampNeg x2) 21 x1.toNatClampNeg (μ 0 40)) 22 x1.toNatClampNeg ((μ 0 41) - ((U (U μ 20 x1.toNatClampNeg x2) 21 x1.toNatClampNeg (μ 0 40)) 18 x1.toNatClampNeg))) 23 x1.toNatClampNeg (μ 0 39)) 25 x1.toNatClampNeg ((U (U (U (U μ 20 x1.toNatClampNeg x2) 21 x1.toNatClampNeg (μ 0 40)) 22 x1.toNatClampNeg ((μ 0 41) - ((U (U μ 20 x1.toNatClampNeg x2) 21 x1.toNatClampNeg (μ 0 40)) 18 x1.toNatClampNeg))) 23 x1.toNatClampNeg (μ 0 39)) 17 x1.toNatClampNeg)) 28 x1.toNatClampNeg (vp_nar .boolean 0))))) : wpE (xT 148) ev Q (45, [(0, .ref m), (1, .int x1), (2, .int x2)], [.int s0], Φ μ) := by
  refine p_push (cc3 c148_45) ?_
  refine p_icmp (cc3 c148_47) (fun c => ?_) (fun c => ?_)
  · have h := h.1 c
    refine p_push (cc3 c148_50) ?_
    exact p_ri (cc3 c148_51) trivial h
  · have h := h.2 c
    refine p_ald (cc3 c148_52) rfl ?_
    refine pm_getp hΦ (cc3 c148_53) (c := 20) rfl (by decide) ?_
    refine p_ild (cc3 c148_56) rfl ?_
    refine p_ild (cc3 c148_57) rfl ?_
    obtain ⟨g, h⟩ := h
    refine pm_asti hΦ (c := 20) (n := 8) (cc3 c148_58) (by decide) rfl rfl rfl g ?_
    refine p_ald (cc3 c148_59) rfl ?_
    refine pm_getp hΦ (cc3 c148_60) (c := 21) rfl (by decide) ?_
    refine p_ild (cc3 c148_63) rfl ?_
    refine p_ald (cc3 c148_64) rfl ?_
    refine pm_geti hΦ (v := μ 0 40) (cc3 c148_65) rfl ?_
    obtain ⟨g, h⟩ := h
    refine pm_asti hΦ (c := 21) (n := 8) (cc3 c148_68) (by decide) rfl rfl rfl g ?_
    refine p_ald (cc3 c148_69) rfl ?_
    refine pm_getp hΦ (cc3 c148_70) (c := 22) rfl (by decide) ?_
    refine p_ild (cc3 c148_73) rfl ?_
    refine p_ald (cc3 c148_74) rfl ?_
    refine pm_geti hΦ (v := μ 0 41) (cc3 c148_75) rfl ?_
    refine p_ald (cc3 c148_78) rfl ?_
    refine pm_getp hΦ (cc3 c148_79) (c := 18) rfl (by decide) ?_
    refine p_ild (cc3 c148_82) rfl ?_
    obtain ⟨g, h⟩ := h
    refine pm_aldi hΦ (c := 18) (n := 8) (cc3 c148_83) (by decide) rfl rfl rfl g rfl ?_
    refine p_bin (cc3 c148_84) ?_
    obtain ⟨g, h⟩ := h
    refine pm_asti hΦ (c := 22) (n := 8) (cc3 c148_85) (by decide) rfl rfl rfl g ?_
    refine p_ald (cc3 c148_86) rfl ?_
    refine pm_getp hΦ (cc3 c148_87) (c := 23) rfl (by decide) ?_
    refine p_ild (cc3 c148_90) rfl ?_
    refine p_ald (cc3 c148_91) rfl ?_
    refine pm_geti hΦ (v := μ 0 39) (cc3 c148_92) rfl ?_
    obtain ⟨g, h⟩ := h
    refine pm_asti hΦ (c := 23) (n := 8) (cc3 c148_95) (by decide) rfl rfl rfl g ?_
    refine p_ald (cc3 c148_96) rfl ?_
    refine pm_getp hΦ (cc3 c148_97) (c := 25) rfl (by decide) ?_
    refine p_ild (cc3 c148_100) rfl ?_
    refine p_ald (cc3 c148_101) rfl ?_
    refine pm_getp hΦ (cc3 c148_102) (c := 17) rfl (by decide) ?_
    refine p_ild (cc3 c148_105) rfl ?_
    obtain ⟨g, h⟩ := h
    refine pm_aldi hΦ (c := 17) (n := 8) (cc3 c148_106) (by decide) rfl rfl rfl g rfl ?_
    obtain ⟨g, h⟩ := h
    refine pm_asti hΦ (c := 25) (n := 8) (cc3 c148_107) (by decide) rfl rfl rfl g ?_
    refine p_ald (cc3 c148_108) rfl ?_
    refine pm_getp hΦ (cc3 c148_109) (c := 28) rfl (by decide) ?_
    refine p_ild (cc3 c148_112) rfl ?_
    refine p_push (cc3 c148_113) ?_
    obtain ⟨g, h⟩ := h
    refine pm_asti hΦ (c := 28) (n := 8) (cc3 c148_114) (by decide) rfl rfl rfl g ?_
    refine p_push (cc3 c148_115) ?_
    refine p_ist (ls' := [(3, .int 0), (0, .ref m), (1, .int x1), (2, .int x2)]) (cc3 c148_116) (by decide) rfl ?_
    exact p_lc (ls' := [(0, .ref m), (1, .int x1), (2, .int x2), (3, .int 0)]) c148_117 rfl rfl h
theorem B148_117 {ev : xV} {Q : Option Value → xM → Prop} {m : Nat} {Φ : (Nat → Nat → Int32) → xM} (hΦ : MLaw m Φ) {μ : Nat → Nat → Int32} {x1 x2 x3 : Int32} (h : vp_in x1 8 ∧ (((μ 15 x1.toNatClampNeg) ≤ x3) → vp_in x1 8 ∧ vp_in x1 8 ∧ vp_in ((μ 15 x1.toNatClampNeg) - 1) 24 ∧ vp_in x1 8 ∧ vp_in x1 8 ∧ vp_in x2 5 ∧ (∃ r μ', ev 137 [.ref m, .int (μ 7 x2.toNatClampNeg), .int 0] (Φ μ) (some (.int r)) (Φ μ') ∧ wpE (xT 148) ev Q (218, [(0, .ref m), (1, .int x1), (2, .int x2), (3, .int x3)], [.int r, .int ((μ 18 x1.toNatClampNeg) / 2), .int ((μ 32 ((μ 15 x1.toNatClampNeg) - 1).toNatClampNeg) + (μ 17 x1.toNatClampNeg)), .ref m, .int (μ 22 x1.toNatClampNeg), .int x1, .ref (m + 24)], Φ μ'))) ∧ (¬ ((μ 15 x1.toNatClampNeg) ≤ x3) → vp_in x3 24 ∧ vp_in ((24 * x1) + x3) 192 ∧ vp_in x3 24 ∧ vp_in ((24 * x1) + x3) 192 ∧ wpE (xT 148) ev Q (117, [(0, .ref m), (1, .int x1), (2, .int x2), (3, .int (x3 + 1))], [], Φ (U (U μ 26 (((24 * x1) + x3).toNatClampNeg) (μ 32 x3.toNatClampNeg)) 27 (((24 * x1) + x3).toNatClampNeg) ((U μ 26 (((24 * x1) + x3).toNatClampNeg) (μ 32 x3.toNatClampNeg)) 31 x3.toNatClampNeg))))) : wpE (xT 148) ev Q (117, [(0, .ref m), (1, .int x1), (2, .int x2), (3, .int x3)], [], Φ μ) := by
  refine p_ild (cct c148_117 rfl) rfl ?_
  refine p_ald (cc3 c148_118) rfl ?_
  refine pm_getp hΦ (cc3 c148_119) (c := 15) rfl (by decide) ?_
  refine p_ild (cc3 c148_122) rfl ?_
  obtain ⟨g, h⟩ := h
  refine pm_aldi hΦ (c := 15) (n := 8) (cc3 c148_123) (by decide) rfl rfl rfl g rfl ?_
  refine p_icmp (cc3 c148_124) (fun c => ?_) (fun c => ?_)
  · have h := h.1 c
    refine p_ald (cc3 c148_167) rfl ?_
    refine pm_getp hΦ (cc3 c148_168) (c := 24) rfl (by decide) ?_
    refine p_ild (cc3 c148_171) rfl ?_
    refine p_ald (cc3 c148_172) rfl ?_
    refine pm_getp hΦ (cc3 c148_173) (c := 22) rfl (by decide) ?_
    refine p_ild (cc3 c148_176) rfl ?_
    obtain ⟨g, h⟩ := h
    refine pm_aldi hΦ (c := 22) (n := 8) (cc3 c148_177) (by decide) rfl rfl rfl g rfl ?_
    refine p_ald (cc3 c148_178) rfl ?_
    refine p_ald (cc3 c148_179) rfl ?_
    refine pm_getp hΦ (cc3 c148_180) (c := 32) rfl (by decide) ?_
    refine p_ald (cc3 c148_183) rfl ?_
    refine pm_getp hΦ (cc3 c148_184) (c := 15) rfl (by decide) ?_
    refine p_ild (cc3 c148_187) rfl ?_
    obtain ⟨g, h⟩ := h
    refine pm_aldi hΦ (c := 15) (n := 8) (cc3 c148_188) (by decide) rfl rfl rfl g rfl ?_
    refine p_push (cc3 c148_189) ?_
    refine p_bin (cc3 c148_190) ?_
    obtain ⟨g, h⟩ := h
    refine pm_aldi hΦ (c := 32) (n := 24) (cc3 c148_191) (by decide) rfl rfl rfl g rfl ?_
    refine p_ald (cc3 c148_192) rfl ?_
    refine pm_getp hΦ (cc3 c148_193) (c := 17) rfl (by decide) ?_
    refine p_ild (cc3 c148_196) rfl ?_
    obtain ⟨g, h⟩ := h
    refine pm_aldi hΦ (c := 17) (n := 8) (cc3 c148_197) (by decide) rfl rfl rfl g rfl ?_
    refine p_bin (cc3 c148_198) ?_
    refine p_ald (cc3 c148_199) rfl ?_
    refine pm_getp hΦ (cc3 c148_200) (c := 18) rfl (by decide) ?_
    refine p_ild (cc3 c148_203) rfl ?_
    obtain ⟨g, h⟩ := h
    refine pm_aldi hΦ (c := 18) (n := 8) (cc3 c148_204) (by decide) rfl rfl rfl g rfl ?_
    refine p_push (cc3 c148_205) ?_
    refine p_div (cc3 c148_206) (by decide) ?_
    refine p_ald (cc3 c148_207) rfl ?_
    refine p_ald (cc3 c148_208) rfl ?_
    refine pm_getp hΦ (cc3 c148_209) (c := 7) rfl (by decide) ?_
    refine p_ild (cc3 c148_212) rfl ?_
    obtain ⟨g, h⟩ := h
    refine pm_aldi hΦ (c := 7) (n := 5) (cc3 c148_213) (by decide) rfl rfl rfl g rfl ?_
    refine p_push (cc3 c148_214) ?_
    obtain ⟨r, μ', he, h⟩ := h
    exact p_callV (cc3 c148_215) (Nat.le_of_ble_eq_true rfl) rfl rfl (Nat.le_of_ble_eq_true rfl) (ml_kd hΦ) he h
  · have h := h.2 c
    refine p_ald (cc3 c148_127) rfl ?_
    refine pm_getp hΦ (cc3 c148_128) (c := 26) rfl (by decide) ?_
    refine p_push (cc3 c148_131) ?_
    refine p_ild (cc3 c148_133) rfl ?_
    refine p_bin (cc3 c148_134) ?_
    refine p_ild (cc3 c148_135) rfl ?_
    refine p_bin (cc3 c148_136) ?_
    refine p_ald (cc3 c148_137) rfl ?_
    refine pm_getp hΦ (cc3 c148_138) (c := 32) rfl (by decide) ?_
    refine p_ild (cc3 c148_141) rfl ?_
    obtain ⟨g, h⟩ := h
    refine pm_aldi hΦ (c := 32) (n := 24) (cc3 c148_142) (by decide) rfl rfl rfl g rfl ?_
    obtain ⟨g, h⟩ := h
    refine pm_asti hΦ (c := 26) (n := 192) (cc3 c148_143) (by decide) rfl rfl rfl g ?_
    refine p_ald (cc3 c148_144) rfl ?_
    refine pm_getp hΦ (cc3 c148_145) (c := 27) rfl (by decide) ?_
    refine p_push (cc3 c148_148) ?_
    refine p_ild (cc3 c148_150) rfl ?_
    refine p_bin (cc3 c148_151) ?_
    refine p_ild (cc3 c148_152) rfl ?_
    refine p_bin (cc3 c148_153) ?_
    refine p_ald (cc3 c148_154) rfl ?_
    refine pm_getp hΦ (cc3 c148_155) (c := 31) rfl (by decide) ?_
    refine p_ild (cc3 c148_158) rfl ?_
    obtain ⟨g, h⟩ := h
    refine pm_aldi hΦ (c := 31) (n := 24) (cc3 c148_159) (by decide) rfl rfl rfl g rfl ?_
    obtain ⟨g, h⟩ := h
    refine pm_asti hΦ (c := 27) (n := 192) (cc3 c148_160) (by decide) rfl rfl rfl g ?_
    refine p_iinc (y := x3 + 1) (ls' := [(3, .int (x3 + 1)), (0, .ref m), (1, .int x1), (2, .int x2)]) (cc3 c148_161) (by decide) rfl rfl rfl ?_
    refine p_goto (cc3 c148_164) ?_
    exact p_lc (ls' := [(0, .ref m), (1, .int x1), (2, .int x2), (3, .int (x3 + 1))]) c148_117 rfl rfl h
theorem B148_218 {ev : xV} {Q : Option Value → xM → Prop} {m : Nat} {Φ : (Nat → Nat → Int32) → xM} (hΦ : MLaw m Φ) {μ : Nat → Nat → Int32} {x1 x2 x3 s0 s1 s2 s4 s5 : Int32} (h : (∃ r μ', ev 152 [.ref m, .int s2, .int s1, .int s0] (Φ μ) (some (.int r)) (Φ μ') ∧ wpE (xT 148) ev Q (221, [(0, .ref m), (1, .int x1), (2, .int x2), (3, .int x3)], [.int r, .int s4, .int s5, .ref (m + 24)], Φ μ'))) : wpE (xT 148) ev Q (218, [(0, .ref m), (1, .int x1), (2, .int x2), (3, .int x3)], [.int s0, .int s1, .int s2, .ref m, .int s4, .int s5, .ref (m + 24)], Φ μ) := by
  obtain ⟨r, μ', he, h⟩ := h
  exact p_callV (cc3 c148_218) (Nat.le_of_ble_eq_true rfl) rfl rfl (Nat.le_of_ble_eq_true rfl) (ml_kd hΦ) he h
theorem B148_221 {ev : xV} {Q : Option Value → xM → Prop} {m : Nat} {Φ : (Nat → Nat → Int32) → xM} (hΦ : MLaw m Φ) {μ : Nat → Nat → Int32} {x1 x2 x3 s0 s1 s2 : Int32} (h : (¬ (μ 0 32) = 0) ∧ vp_in s2 8 ∧ Q (some (.int (μ 0 41))) (Φ (U μ 24 s2.toNatClampNeg ((s1 - s0) / (μ 0 32))))) : wpE (xT 148) ev Q (221, [(0, .ref m), (1, .int x1), (2, .int x2), (3, .int x3)], [.int s0, .int s1, .int s2, .ref (m + 24)], Φ μ) := by
  refine p_bin (cc3 c148_221) ?_
  refine p_ald (cc3 c148_222) rfl ?_
  refine pm_geti hΦ (v := μ 0 32) (cc3 c148_223) rfl ?_
  obtain ⟨g, h⟩ := h
  refine p_div (cc3 c148_226) g ?_
  obtain ⟨g, h⟩ := h
  refine pm_asti hΦ (c := 24) (n := 8) (cc3 c148_227) (by decide) rfl rfl rfl g ?_
  refine p_ald (cc3 c148_228) rfl ?_
  refine pm_geti hΦ (v := μ 0 41) (cc3 c148_229) rfl ?_
  exact p_ri (cc3 c148_232) trivial h
theorem B149_0 {ev : xV} {Q : Option Value → xM → Prop} {m : Nat} {Φ : (Nat → Nat → Int32) → xM} (hΦ : MLaw m Φ) {μ : Nat → Nat → Int32} {x1 x2 : Int32} (h : (∃ r μ', ev 150 [.ref m, .int x1] (Φ μ) (some (.int r)) (Φ μ') ∧ wpE (xT 149) ev Q (5, [(0, .ref m), (1, .int x1), (2, .int x2)], [.int r], Φ μ'))) : wpE (xT 149) ev Q (0, [(0, .ref m), (1, .int x1), (2, .int x2)], [], Φ μ) := by
  refine p_ald (cc3 c149_0) rfl ?_
  refine p_ild (cc3 c149_1) rfl ?_
  obtain ⟨r, μ', he, h⟩ := h
  exact p_callV (cc3 c149_2) (Nat.le_of_ble_eq_true rfl) rfl rfl (Nat.le_of_ble_eq_true rfl) (ml_kd hΦ) he h
theorem B149_5 {ev : xV} {Q : Option Value → xM → Prop} {m : Nat} {Φ : (Nat → Nat → Int32) → xM} (hΦ : MLaw m Φ) {μ : Nat → Nat → Int32} {x1 x2 s0 : Int32} (h : ((s0 = 0) → Q (some (.int 1)) (Φ μ)) ∧ (¬ (s0 = 0) → vp_in x1 8 ∧ vp_in x2 5 ∧ (((μ 2 x2.toNatClampNeg) ≤ (μ 16 x1.toNatClampNeg)) → Q (some (.int 0)) (Φ μ)) ∧ (¬ ((μ 2 x2.toNatClampNeg) ≤ (μ 16 x1.toNatClampNeg)) → Q (some (.int 1)) (Φ μ)))) : wpE (xT 149) ev Q (5, [(0, .ref m), (1, .int x1), (2, .int x2)], [.int s0], Φ μ) := by
  refine p_if (cc3 c149_5) (fun c => ?_) (fun c => ?_)
  · have h := h.1 c
    refine p_lc (ls' := []) c149_23 rfl rfl ?_
    refine p_push (cct c149_23 rfl) ?_
    refine p_goto (cc3 c149_24) ?_
    exact p_ri (cct c149_28 rfl) (by decide) h
  · have h := h.2 c
    refine p_ald (cc3 c149_8) rfl ?_
    refine pm_getp hΦ (cc3 c149_9) (c := 16) rfl (by decide) ?_
    refine p_ild (cc3 c149_12) rfl ?_
    obtain ⟨g, h⟩ := h
    refine pm_aldi hΦ (c := 16) (n := 8) (cc3 c149_13) (by decide) rfl rfl rfl g rfl ?_
    refine p_ald (cc3 c149_14) rfl ?_
    refine pm_getp hΦ (cc3 c149_15) (c := 2) rfl (by decide) ?_
    refine p_ild (cc3 c149_18) rfl ?_
    obtain ⟨g, h⟩ := h
    refine pm_aldi hΦ (c := 2) (n := 5) (cc3 c149_19) (by decide) rfl rfl rfl g rfl ?_
    refine p_icmp (cc3 c149_20) (fun c => ?_) (fun c => ?_)
    · have h := h.1 c
      refine p_push (cc3 c149_27) ?_
      refine p_lc (ls' := []) c149_28 rfl rfl ?_
      exact p_ri (cct c149_28 rfl) (by decide) h
    · have h := h.2 c
      refine p_lc (ls' := []) c149_23 rfl rfl ?_
      refine p_push (cct c149_23 rfl) ?_
      refine p_goto (cc3 c149_24) ?_
      exact p_ri (cct c149_28 rfl) (by decide) h
theorem B150_0 {ev : xV} {Q : Option Value → xM → Prop} {m : Nat} {Φ : (Nat → Nat → Int32) → xM} (hΦ : MLaw m Φ) {μ : Nat → Nat → Int32} {x1 : Int32} (h : vp_in x1 8 ∧ (((μ 11 x1.toNatClampNeg) = 1) → Q (some (.int 1)) (Φ μ)) ∧ (¬ ((μ 11 x1.toNatClampNeg) = 1) → vp_in x1 8 ∧ (((μ 11 x1.toNatClampNeg) = 3) → Q (some (.int 1)) (Φ μ)) ∧ (¬ ((μ 11 x1.toNatClampNeg) = 3) → vp_in x1 8 ∧ (((μ 11 x1.toNatClampNeg) = 5) → Q (some (.int 1)) (Φ μ)) ∧ (¬ ((μ 11 x1.toNatClampNeg) = 5) → Q (some (.int 0)) (Φ μ))))) : wpE (xT 150) ev Q (0, [(0, .ref m), (1, .int x1)], [], Φ μ) := by
  refine p_ald (cc3 c150_0) rfl ?_
  refine pm_getp hΦ (cc3 c150_1) (c := 11) rfl (by decide) ?_
  refine p_ild (cc3 c150_4) rfl ?_
  obtain ⟨g, h⟩ := h
  refine pm_aldi hΦ (c := 11) (n := 8) (cc3 c150_5) (by decide) rfl rfl rfl g rfl ?_
  refine p_push (cc3 c150_6) ?_
  refine p_icmp (cc3 c150_7) (fun c => ?_) (fun c => ?_)
  · have h := h.1 c
    refine p_lc (ls' := []) c150_30 rfl rfl ?_
    refine p_push (cct c150_30 rfl) ?_
    refine p_goto (cc3 c150_31) ?_
    exact p_ri (cct c150_35 rfl) (by decide) h
  · have h := h.2 c
    refine p_ald (cc3 c150_10) rfl ?_
    refine pm_getp hΦ (cc3 c150_11) (c := 11) rfl (by decide) ?_
    refine p_ild (cc3 c150_14) rfl ?_
    obtain ⟨g, h⟩ := h
    refine pm_aldi hΦ (c := 11) (n := 8) (cc3 c150_15) (by decide) rfl rfl rfl g rfl ?_
    refine p_push (cc3 c150_16) ?_
    refine p_icmp (cc3 c150_17) (fun c => ?_) (fun c => ?_)
    · have h := h.1 c
      refine p_lc (ls' := []) c150_30 rfl rfl ?_
      refine p_push (cct c150_30 rfl) ?_
      refine p_goto (cc3 c150_31) ?_
      exact p_ri (cct c150_35 rfl) (by decide) h
    · have h := h.2 c
      refine p_ald (cc3 c150_20) rfl ?_
      refine pm_getp hΦ (cc3 c150_21) (c := 11) rfl (by decide) ?_
      refine p_ild (cc3 c150_24) rfl ?_
      obtain ⟨g, h⟩ := h
      refine pm_aldi hΦ (c := 11) (n := 8) (cc3 c150_25) (by decide) rfl rfl rfl g rfl ?_
      refine p_push (cc3 c150_26) ?_
      refine p_icmp (cc3 c150_27) (fun c => ?_) (fun c => ?_)
      · have h := h.1 c
        refine p_lc (ls' := []) c150_30 rfl rfl ?_
        refine p_push (cct c150_30 rfl) ?_
        refine p_goto (cc3 c150_31) ?_
        exact p_ri (cct c150_35 rfl) (by decide) h
      · have h := h.2 c
        refine p_push (cc3 c150_34) ?_
        refine p_lc (ls' := []) c150_35 rfl rfl ?_
        exact p_ri (cct c150_35 rfl) (by decide) h
