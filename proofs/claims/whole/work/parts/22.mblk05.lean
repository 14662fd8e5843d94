theorem B185_0 {ev : xV} {Q : Option Value → xM → Prop} {m : Nat} {Φ : (Nat → Nat → Int32) → xM} (hΦ : MLaw m Φ) {μ : Nat → Nat → Int32} (h : (∃ r μ', ev 177 [.ref m, .int 2] (Φ μ) (some (.int r)) (Φ μ') ∧ wpE (xT 185) ev Q (5, [(0, .ref m)], [.int r], Φ μ'))) : wpE (xT 185) ev Q (0, [(0, .ref m)], [], Φ μ) := by
  refine p_ald (cc3 c185_0) rfl ?_
  refine p_push (cc3 c185_1) ?_
  obtain ⟨r, μ', he, h⟩ := h
  exact p_callV (cc3 c185_2) (Nat.le_of_ble_eq_true rfl) rfl rfl (Nat.le_of_ble_eq_true rfl) (ml_kd hΦ) he h
theorem B185_5 {ev : xV} {Q : Option Value → xM → Prop} {m : Nat} {Φ : (Nat → Nat → Int32) → xM} (hΦ : MLaw m Φ) {μ : Nat → Nat → Int32} {s0 : Int32} (h : ((s0 = 0) → (∃ r μ', ev 177 [.ref m, .int 3] (Φ μ) (some (.int r)) (Φ μ') ∧ wpE (xT 185) ev Q (17, [(0, .ref m)], [.int r], Φ μ'))) ∧ (¬ (s0 = 0) → Q (some (.int ((-1)))) (Φ μ))) : wpE (xT 185) ev Q (5, [(0, .ref m)], [.int s0], Φ μ) := by
  refine p_if (cc3 c185_5) (fun c => ?_) (fun c => ?_)
  · have h := h.1 c
    refine p_ald (cc3 c185_12) rfl ?_
    refine p_push (cc3 c185_13) ?_
    obtain ⟨r, μ', he, h⟩ := h
    exact p_callV (cc3 c185_14) (Nat.le_of_ble_eq_true rfl) rfl rfl (Nat.le_of_ble_eq_true rfl) (ml_kd hΦ) he h
  · have h := h.2 c
    refine p_push (cc3 c185_8) ?_
    refine p_goto (cc3 c185_9) ?_
    refine p_lc (ls' := []) c185_96 rfl rfl ?_
    exact p_ri (cct c185_96 rfl) trivial h
theorem B185_17 {ev : xV} {Q : Option Value → xM → Prop} {m : Nat} {Φ : (Nat → Nat → Int32) → xM} (hΦ : MLaw m Φ) {μ : Nat → Nat → Int32} {s0 : Int32} (h : ((s0 = 0) → (∃ r μ', ev 180 [.ref m, .int 60] (Φ μ) (some (.int r)) (Φ μ') ∧ wpE (xT 185) ev Q (31, [(0, .ref m)], [.int r], Φ μ'))) ∧ (¬ (s0 = 0) → Q (some (.int ((-2)))) (Φ μ))) : wpE (xT 185) ev Q (17, [(0, .ref m)], [.int s0], Φ μ) := by
  refine p_if (cc3 c185_17) (fun c => ?_) (fun c => ?_)
  · have h := h.1 c
    refine p_ald (cc3 c185_25) rfl ?_
    refine p_push (cc3 c185_26) ?_
    obtain ⟨r, μ', he, h⟩ := h
    exact p_callV (cc3 c185_28) (Nat.le_of_ble_eq_true rfl) rfl rfl (Nat.le_of_ble_eq_true rfl) (ml_kd hΦ) he h
  · have h := h.2 c
    refine p_push (cc3 c185_20) ?_
    refine p_goto (cc3 c185_22) ?_
    refine p_lc (ls' := []) c185_96 rfl rfl ?_
    exact p_ri (cct c185_96 rfl) trivial h
theorem B185_31 {ev : xV} {Q : Option Value → xM → Prop} {m : Nat} {Φ : (Nat → Nat → Int32) → xM} (hΦ : MLaw m Φ) {μ : Nat → Nat → Int32} {s0 : Int32} (h : ((s0 = 0) → (∃ r μ', ev 180 [.ref m, .int 61] (Φ μ) (some (.int r)) (Φ μ') ∧ wpE (xT 185) ev Q (45, [(0, .ref m)], [.int r], Φ μ'))) ∧ (¬ (s0 = 0) → Q (some (.int ((-4)))) (Φ μ))) : wpE (xT 185) ev Q (31, [(0, .ref m)], [.int s0], Φ μ) := by
  refine p_if (cc3 c185_31) (fun c => ?_) (fun c => ?_)
  · have h := h.1 c
    refine p_ald (cc3 c185_39) rfl ?_
    refine p_push (cc3 c185_40) ?_
    obtain ⟨r, μ', he, h⟩ := h
    exact p_callV (cc3 c185_42) (Nat.le_of_ble_eq_true rfl) rfl rfl (Nat.le_of_ble_eq_true rfl) (ml_kd hΦ) he h
  · have h := h.2 c
    refine p_push (cc3 c185_34) ?_
    refine p_goto (cc3 c185_36) ?_
    refine p_lc (ls' := []) c185_96 rfl rfl ?_
    exact p_ri (cct c185_96 rfl) trivial h
theorem B185_45 {ev : xV} {Q : Option Value → xM → Prop} {m : Nat} {Φ : (Nat → Nat → Int32) → xM} (hΦ : MLaw m Φ) {μ : Nat → Nat → Int32} {s0 : Int32} (h : ((s0 = 0) → (∃ r μ', ev 180 [.ref m, .int 43] (Φ μ) (some (.int r)) (Φ μ') ∧ wpE (xT 185) ev Q (59, [(0, .ref m)], [.int r], Φ μ'))) ∧ (¬ (s0 = 0) → Q (some (.int ((-5)))) (Φ μ))) : wpE (xT 185) ev Q (45, [(0, .ref m)], [.int s0], Φ μ) := by
  refine p_if (cc3 c185_45) (fun c => ?_) (fun c => ?_)
  · have h := h.1 c
    refine p_ald (cc3 c185_53) rfl ?_
    refine p_push (cc3 c185_54) ?_
    obtain ⟨r, μ', he, h⟩ := h
    exact p_callV (cc3 c185_56) (Nat.le_of_ble_eq_true rfl) rfl rfl (Nat.le_of_ble_eq_true rfl) (ml_kd hΦ) he h
  · have h := h.2 c
    refine p_push (cc3 c185_48) ?_
    refine p_goto (cc3 c185_50) ?_
    refine p_lc (ls' := []) c185_96 rfl rfl ?_
    exact p_ri (cct c185_96 rfl) trivial h
theorem B185_59 {ev : xV} {Q : Option Value → xM → Prop} {m : Nat} {Φ : (Nat → Nat → Int32) → xM} (hΦ : MLaw m Φ) {μ : Nat → Nat → Int32} {s0 : Int32} (h : ((s0 = 0) → (∃ r μ', ev 180 [.ref m, .int 45] (Φ μ) (some (.int r)) (Φ μ') ∧ wpE (xT 185) ev Q (73, [(0, .ref m)], [.int r], Φ μ'))) ∧ (¬ (s0 = 0) → Q (some (.int ((-6)))) (Φ μ))) : wpE (xT 185) ev Q (59, [(0, .ref m)], [.int s0], Φ μ) := by
  refine p_if (cc3 c185_59) (fun c => ?_) (fun c => ?_)
  · have h := h.1 c
    refine p_ald (cc3 c185_67) rfl ?_
    refine p_push (cc3 c185_68) ?_
    obtain ⟨r, μ', he, h⟩ := h
    exact p_callV (cc3 c185_70) (Nat.le_of_ble_eq_true rfl) rfl rfl (Nat.le_of_ble_eq_true rfl) (ml_kd hΦ) he h
  · have h := h.2 c
    refine p_push (cc3 c185_62) ?_
    refine p_goto (cc3 c185_64) ?_
    refine p_lc (ls' := []) c185_96 rfl rfl ?_
    exact p_ri (cct c185_96 rfl) trivial h
theorem B185_73 {ev : xV} {Q : Option Value → xM → Prop} {m : Nat} {Φ : (Nat → Nat → Int32) → xM} (hΦ : MLaw m Φ) {μ : Nat → Nat → Int32} {s0 : Int32} (h : ((s0 = 0) → (∃ r μ', ev 180 [.ref m, .int 42] (Φ μ) (some (.int r)) (Φ μ') ∧ wpE (xT 185) ev Q (87, [(0, .ref m)], [.int r], Φ μ'))) ∧ (¬ (s0 = 0) → Q (some (.int ((-7)))) (Φ μ))) : wpE (xT 185) ev Q (73, [(0, .ref m)], [.int s0], Φ μ) := by
  refine p_if (cc3 c185_73) (fun c => ?_) (fun c => ?_)
  · have h := h.1 c
    refine p_ald (cc3 c185_81) rfl ?_
    refine p_push (cc3 c185_82) ?_
    obtain ⟨r, μ', he, h⟩ := h
    exact p_callV (cc3 c185_84) (Nat.le_of_ble_eq_true rfl) rfl rfl (Nat.le_of_ble_eq_true rfl) (ml_kd hΦ) he h
  · have h := h.2 c
    refine p_push (cc3 c185_76) ?_
    refine p_goto (cc3 c185_78) ?_
    refine p_lc (ls' := []) c185_96 rfl rfl ?_
    exact p_ri (cct c185_96 rfl) trivial h
theorem B185_87 {ev : xV} {Q : Option Value → xM → Prop} {m : Nat} {Φ : (Nat → Nat → Int32) → xM} (hΦ : MLaw m Φ) {μ : Nat → Nat → Int32} {s0 : Int32} (h : ((s0 = 0) → Q (some (.int 0)) (Φ μ)) ∧ (¬ (s0 = 0) → Q (some (.int ((-8)))) (Φ μ))) : wpE (xT 185) ev Q (87, [(0, .ref m)], [.int s0], Φ μ) := by
  refine p_if (cc3 c185_87) (fun c => ?_) (fun c => ?_)
  · have h := h.1 c
    refine p_push (cc3 c185_95) ?_
    refine p_lc (ls' := []) c185_96 rfl rfl ?_
    exact p_ri (cct c185_96 rfl) trivial h
  · have h := h.2 c
    refine p_push (cc3 c185_90) ?_
    refine p_goto (cc3 c185_92) ?_
    refine p_lc (ls' := []) c185_96 rfl rfl ?_
    exact p_ri (cct c185_96 rfl) trivial h
theorem B186_0 {ev : xV} {Q : Option Value → xM → Prop} {m : Nat} {Φ : (Nat → Nat → Int32) → xM} (hΦ : MLaw m Φ) {μ : Nat → Nat → Int32} {x1 : Int32} (h : (∃ r μ', ev 129 [.ref m, .int x1, .int 0, .int ((μ 0 42) - 1)] (Φ μ) (some (.int r)) (Φ μ') ∧ wpE (xT 186) ev Q (12, [(0, .ref m), (1, .int x1)], [.int r], Φ μ'))) : wpE (xT 186) ev Q (0, [(0, .ref m), (1, .int x1)], [], Φ μ) := by
  refine p_ald (cc3 c186_0) rfl ?_
  refine p_ild (cc3 c186_1) rfl ?_
  refine p_push (cc3 c186_2) ?_
  refine p_ald (cc3 c186_3) rfl ?_
  refine pm_geti hΦ (v := μ 0 42) (cc3 c186_4) rfl ?_
  refine p_push (cc3 c186_7) ?_
  refine p_bin (cc3 c186_8) ?_
  obtain ⟨r, μ', he, h⟩ := h
  exact p_callV (cc3 c186_9) (Nat.le_of_ble_eq_true rfl) rfl rfl (Nat.le_of_ble_eq_true rfl) (ml_kd hΦ) he h
theorem B186_12 {ev : xV} {Q : Option Value → xM → Prop} {m : Nat} {Φ : (Nat → Nat → Int32) → xM} (hΦ : MLaw m Φ) {μ : Nat → Nat → Int32} {x1 s0 : Int32} (h : ((s0 = 0) → Q (some (.int ((-2)))) (Φ μ)) ∧ (¬ (s0 = 0) → Q (some (.int (μ 0 43))) (Φ (U μ 0 43 x1)))) : wpE (xT 186) ev Q (12, [(0, .ref m), (1, .int x1)], [.int s0], Φ μ) := by
  refine p_if (cc3 c186_12) (fun c => ?_) (fun c => ?_)
  · have h := h.1 c
    refine p_push (cc3 c186_15) ?_
    exact p_ri (cc3 c186_17) trivial h
  · have h := h.2 c
    refine p_ald (cc3 c186_18) rfl ?_
    refine pm_geti hΦ (v := μ 0 43) (cc3 c186_19) rfl ?_
    refine p_ist (ls' := [(2, .int (μ 0 43)), (0, .ref m), (1, .int x1)]) (cc3 c186_22) (by decide) rfl ?_
    refine p_ald (cc3 c186_23) rfl ?_
    refine p_ild (cc3 c186_24) rfl ?_
    refine pm_puti hΦ (cc3 c186_25) ?_
    refine p_ild (cc3 c186_28) rfl ?_
    exact p_ri (cc3 c186_29) trivial h
theorem B187_0 {ev : xV} {Q : Option Value → xM → Prop} {m : Nat} {Φ : (Nat → Nat → Int32) → xM} (hΦ : MLaw m Φ) {μ : Nat → Nat → Int32} {x1 x2 : Int32} (h : (∃ r μ', ev 160 [.ref m, .int x1] (Φ μ) (some (.int r)) (Φ μ') ∧ wpE (xT 187) ev Q (5, [(0, .ref m), (1, .int x1), (2, .int x2)], [.int r], Φ μ'))) : wpE (xT 187) ev Q (0, [(0, .ref m), (1, .int x1), (2, .int x2)], [], Φ μ) := by
  refine p_ald (cc3 c187_0) rfl ?_
  refine p_ild (cc3 c187_1) rfl ?_
  obtain ⟨r, μ', he, h⟩ := h
  exact p_callV (cc3 c187_2) (Nat.le_of_ble_eq_true rfl) rfl rfl (Nat.le_of_ble_eq_true rfl) (ml_kd hΦ) he h
theorem B187_5 {ev : xV} {Q : Option Value → xM → Prop} {m : Nat} {Φ : (Nat → Nat → Int32) → xM} (hΦ : MLaw m Φ) {μ : Nat → Nat → Int32} {x1 x2 s0 : Int32} (h : ((s0 = 0) → Q (some (.long ((-4611686018427387904)))) (Φ μ)) ∧ (¬ (s0 = 0) → (∃ r μ', ev 129 [.ref m, .int x2, .int 0, .int 1] (Φ μ) (some (.int r)) (Φ μ') ∧ wpE (xT 187) ev Q (15, [(0, .ref m), (1, .int x1), (2, .int x2)], [.int r], Φ μ')))) : wpE (xT 187) ev Q (5, [(0, .ref m), (1, .int x1), (2, .int x2)], [.int s0], Φ μ) := by
  refine p_if (cc3 c187_5) (fun c => ?_) (fun c => ?_)
  · have h := h.1 c
    refine p_lc (ls' := []) c187_18 rfl rfl ?_
    refine p_push (cct c187_18 rfl) ?_
    exact p_rl (cc3 c187_21) h
  · have h := h.2 c
    refine p_ald (cc3 c187_8) rfl ?_
    refine p_ild (cc3 c187_9) rfl ?_
    refine p_push (cc3 c187_10) ?_
    refine p_push (cc3 c187_11) ?_
    obtain ⟨r, μ', he, h⟩ := h
    exact p_callV (cc3 c187_12) (Nat.le_of_ble_eq_true rfl) rfl rfl (Nat.le_of_ble_eq_true rfl) (ml_kd hΦ) he h
theorem B187_15 {ev : xV} {Q : Option Value → xM → Prop} {m : Nat} {Φ : (Nat → Nat → Int32) → xM} (hΦ : MLaw m Φ) {μ : Nat → Nat → Int32} {x1 x2 s0 : Int32} (h : ((s0 = 0) → Q (some (.long ((-4611686018427387904)))) (Φ μ)) ∧ (¬ (s0 = 0) → vp_in x1 8 ∧ vp_in x1 8 ∧ vp_in x1 8 ∧ vp_in x1 8 ∧ vp_in x1 8 ∧ vp_in x1 8 ∧ vp_in x1 8 ∧ (∃ r μ', ev 188 [.ref m, .int x2] (Φ (U (U (U (U (U (U μ 37 0 ((μ 22 x1.toNatClampNeg) + (μ 18 x1.toNatClampNeg))) 37 1 ((U μ 37 0 ((μ 22 x1.toNatClampNeg) + (μ 18 x1.toNatClampNeg))) 15 x1.toNatClampNeg)) 37 2 ((U (U μ 37 0 ((μ 22 x1.toNatClampNeg) + (μ 18 x1.toNatClampNeg))) 37 1 ((U μ 37 0 ((μ 22 x1.toNatClampNeg) + (μ 18 x1.toNatClampNeg))) 15 x1.toNatClampNeg)) 13 x1.toNatClampNeg)) 37 3 ((U (U (U μ 37 0 ((μ 22 x1.toNatClampNeg) + (μ 18 x1.toNatClampNeg))) 37 1 ((U μ 37 0 ((μ 22 x1.toNatClampNeg) + (μ 18 x1.toNatClampNeg))) 15 x1.toNatClampNeg)) 37 2 ((U (U μ 37 0 ((μ 22 x1.toNatClampNeg) + (μ 18 x1.toNatClampNeg))) 37 1 ((U μ 37 0 ((μ 22 x1.toNatClampNeg) + (μ 18 x1.toNatClampNeg))) 15 x1.toNatClampNeg)) 13 x1.toNatClampNeg)) 14 x1.toNatClampNeg)) 37 4 ((U (U (U (U μ 37 0 ((μ 22 x1.toNatClampNeg) + (μ 18 x1.toNatClampNeg))) 37 1 ((U μ 37 0 ((μ 22 x1.toNatClampNeg) + (μ 18 x1.toNatClampNeg))) 15 x1.toNatClampNeg)) 37 2 ((U (U μ 37 0 ((μ 22 x1.toNatClampNeg) + (μ 18 x1.toNatClampNeg))) 37 1 ((U μ 37 0 ((μ 22 x1.toNatClampNeg) + (μ 18 x1.toNatClampNeg))) 15 x1.toNatClampNeg)) 13 x1.toNatClampNeg)) 37 3 ((U (U (U μ 37 0 ((μ 22 x1.toNatClampNeg) + (μ 18 x1.toNatClampNeg))) 37 1 ((U μ 37 0 ((μ 22 x1.toNatClampNeg) + (μ 18 x1.toNatClampNeg))) 15 x1.toNatClampNeg)) 37 2 ((U (U μ 37 0 ((μ 22 x1.toNatClampNeg) + (μ 18 x1.toNatClampNeg))) 37 1 ((U μ 37 0 ((μ 22 x1.toNatClampNeg) + (μ 18 x1.toNatClampNeg))) 15 x1.toNatClampNeg)) 13 x1.toNatClampNeg)) 14 x1.toNatClampNeg)) 25 x1.toNatClampNeg)) 37 5 ((U (U (U (U (U μ 37 0 ((μ 22 x1.toNatClampNeg) + (μ 18 x1.toNatClampNeg))) 37 1 ((U μ 37 0 ((μ 22 x1.toNatClampNeg) + (μ 18 x1.toNatClampNeg))) 15 x1.toNatClampNeg)) 37 2 ((U (U μ 37 0 ((μ 22 x1.toNatClampNeg) + (μ 18 x1.toNatClampNeg))) 37 1 ((U μ 37 0 ((μ 22 x1.toNatClampNeg) + (μ 18 x1.toNatClampNeg))) 15 x1.toNatClampNeg)) 13 x1.toNatClampNeg)) 37 3 ((U (U (U μ 37 0 ((μ 22 x1.toNatClampNeg) + (μ 18 x1.toNatClampNeg))) 37 1 ((U μ 37 0 ((μ 22 x1.toNatClampNeg) + (μ 18 x1.toNatClampNeg))) 15 x1.toNatClampNeg)) 37 2 ((U (U μ 37 0 ((μ 22 x1.toNatClampNeg) + (μ 18 x1.toNatClampNeg))) 37 1 ((U μ 37 0 ((μ 22 x1.toNatClampNeg) + (μ 18 x1.toNatClampNeg))) 15 x1.toNatClampNeg)) 13 x1.toNatClampNeg)) 14 x1.toNatClampNeg)) 37 4 ((U (U (U (U μ 37 0 ((μ 22 x1.toNatClampNeg) + (μ 18 x1.toNatClampNeg))) 37 1 ((U μ 37 0 ((μ 22 x1.toNatClampNeg) + (μ 18 x1.toNatClampNeg))) 15 x1.toNatClampNeg)) 37 2 ((U (U μ 37 0 ((μ 22 x1.toNatClampNeg) + (μ 18 x1.toNatClampNeg))) 37 1 ((U μ 37 0 ((μ 22 x1.toNatClampNeg) + (μ 18 x1.toNatClampNeg))) 15 x1.toNatClampNeg)) 13 x1.toNatClampNeg)) 37 3 ((U (U (U μ 37 0 ((μ 22 x1.toNatClampNeg) + (μ 18 x1.toNatClampNeg))) 37 1 ((U μ 37 0 ((μ 22 x1.toNatClampNeg) + (μ 18 x1.toNatClampNeg))) 15 x1.toNatClampNeg)) 37 2 ((U (U μ 37 0 ((μ 22 x1.toNatClampNeg) + (μ 18 x1.toNatClampNeg))) 37 1 ((U μ 37 0 ((μ 22 x1.toNatClampNeg) + (μ 18 x1.toNatClampNeg))) 15 x1.toNatClampNeg)) 13 x1.toNatClampNeg)) 14 x1.toNatClampNeg)) 25 x1.toNatClampNeg)) 11 x1.toNatClampNeg))) (some (.int r)) (Φ μ') ∧ wpE (xT 187) ev Q (106, [(0, .ref m), (1, .int x1), (2, .int x2)], [.int r], Φ μ')))) : wpE (xT 187) ev Q (15, [(0, .ref m), (1, .int x1), (2, .int x2)], [.int s0], Φ μ) := by
  refine p_if (cc3 c187_15) (fun c => ?_) (fun c => ?_)
  · have h := h.1 c
    refine p_lc (ls' := []) c187_18 rfl rfl ?_
    refine p_push (cct c187_18 rfl) ?_
    exact p_rl (cc3 c187_21) h
  · have h := h.2 c
    refine p_ald (cc3 c187_22) rfl ?_
    refine pm_getp hΦ (cc3 c187_23) (c := 37) rfl (by decide) ?_
    refine p_push (cc3 c187_26) ?_
    refine p_ald (cc3 c187_27) rfl ?_
    refine pm_getp hΦ (cc3 c187_28) (c := 22) rfl (by decide) ?_
    refine p_ild (cc3 c187_31) rfl ?_
    obtain ⟨g, h⟩ := h
    refine pm_aldi hΦ (c := 22) (n := 8) (cc3 c187_32) (by decide) rfl rfl rfl g rfl ?_
    refine p_ald (cc3 c187_33) rfl ?_
    refine pm_getp hΦ (cc3 c187_34) (c := 18) rfl (by decide) ?_
    refine p_ild (cc3 c187_37) rfl ?_
    obtain ⟨g, h⟩ := h
    refine pm_aldi hΦ (c := 18) (n := 8) (cc3 c187_38) (by decide) rfl rfl rfl g rfl ?_
    refine p_bin (cc3 c187_39) ?_
    refine pm_asti hΦ (c := 37) (n := 6) (k9 := 0) (cc3 c187_40) (by decide) rfl rfl (by decide) (by unfold vp_in; decide) ?_
    refine p_ald (cc3 c187_41) rfl ?_
    refine pm_getp hΦ (cc3 c187_42) (c := 37) rfl (by decide) ?_
    refine p_push (cc3 c187_45) ?_
    refine p_ald (cc3 c187_46) rfl ?_
    refine pm_getp hΦ (cc3 c187_47) (c := 15) rfl (by decide) ?_
    refine p_ild (cc3 c187_50) rfl ?_
    obtain ⟨g, h⟩ := h
    refine pm_aldi hΦ (c := 15) (n := 8) (cc3 c187_51) (by decide) rfl rfl rfl g rfl ?_
    refine pm_asti hΦ (c := 37) (n := 6) (k9 := 1) (cc3 c187_52) (by decide) rfl rfl (by decide) (by unfold vp_in; decide) ?_
    refine p_ald (cc3 c187_53) rfl ?_
    refine pm_getp hΦ (cc3 c187_54) (c := 37) rfl (by decide) ?_
    refine p_push (cc3 c187_57) ?_
    refine p_ald (cc3 c187_58) rfl ?_
    refine pm_getp hΦ (cc3 c187_59) (c := 13) rfl (by decide) ?_
    refine p_ild (cc3 c187_62) rfl ?_
    obtain ⟨g, h⟩ := h
    refine pm_aldi hΦ (c := 13) (n := 8) (cc3 c187_63) (by decide) rfl rfl rfl g rfl ?_
    refine pm_asti hΦ (c := 37) (n := 6) (k9 := 2) (cc3 c187_64) (by decide) rfl rfl (by decide) (by unfold vp_in; decide) ?_
    refine p_ald (cc3 c187_65) rfl ?_
    refine pm_getp hΦ (cc3 c187_66) (c := 37) rfl (by decide) ?_
    refine p_push (cc3 c187_69) ?_
    refine p_ald (cc3 c187_70) rfl ?_
    refine pm_getp hΦ (cc3 c187_71) (c := 14) rfl (by decide) ?_
    refine p_ild (cc3 c187_74) rfl ?_
    obtain ⟨g, h⟩ := h
    refine pm_aldi hΦ (c := 14) (n := 8) (cc3 c187_75) (by decide) rfl rfl rfl g rfl ?_
    refine pm_asti hΦ (c := 37) (n := 6) (k9 := 3) (cc3 c187_76) (by decide) rfl rfl (by decide) (by unfold vp_in; decide) ?_
    refine p_ald (cc3 c187_77) rfl ?_
    refine pm_getp hΦ (cc3 c187_78) (c := 37) rfl (by decide) ?_
    refine p_push (cc3 c187_81) ?_
    refine p_ald (cc3 c187_82) rfl ?_
    refine pm_getp hΦ (cc3 c187_83) (c := 25) rfl (by decide) ?_
    refine p_ild (cc3 c187_86) rfl ?_
    obtain ⟨g, h⟩ := h
    refine pm_aldi hΦ (c := 25) (n := 8) (cc3 c187_87) (by decide) rfl rfl rfl g rfl ?_
    refine pm_asti hΦ (c := 37) (n := 6) (k9 := 4) (cc3 c187_88) (by decide) rfl rfl (by decide) (by unfold vp_in; decide) ?_
    refine p_ald (cc3 c187_89) rfl ?_
    refine pm_getp hΦ (cc3 c187_90) (c := 37) rfl (by decide) ?_
    refine p_push (cc3 c187_93) ?_
    refine p_ald (cc3 c187_94) rfl ?_
    refine pm_getp hΦ (cc3 c187_95) (c := 11) rfl (by decide) ?_
    refine p_ild (cc3 c187_98) rfl ?_
    obtain ⟨g, h⟩ := h
    refine pm_aldi hΦ (c := 11) (n := 8) (cc3 c187_99) (by decide) rfl rfl rfl g rfl ?_
    refine pm_asti hΦ (c := 37) (n := 6) (k9 := 5) (cc3 c187_100) (by decide) rfl rfl (by decide) (by unfold vp_in; decide) ?_
    refine p_ald (cc3 c187_101) rfl ?_
    refine p_ild (cc3 c187_102) rfl ?_
    obtain ⟨r, μ', he, h⟩ := h
    exact p_callV (cc3 c187_103) (Nat.le_of_ble_eq_true rfl) rfl rfl (Nat.le_of_ble_eq_true rfl) (ml_kd hΦ) he h
theorem B187_106 {ev : xV} {Q : Option Value → xM → Prop} {m : Nat} {Φ : (Nat → Nat → Int32) → xM} (hΦ : MLaw m Φ) {μ : Nat → Nat → Int32} {x1 x2 s0 : Int32} (h : Q (some (.long s0.toInt64)) (Φ μ)) : wpE (xT 187) ev Q (106, [(0, .ref m), (1, .int x1), (2, .int x2)], [.int s0], Φ μ) := by
  refine p_i2l (cc3 c187_106) ?_
  exact p_rl (cc3 c187_107) h
theorem B188_0 {ev : xV} {Q : Option Value → xM → Prop} {m : Nat} {Φ : (Nat → Nat → Int32) → xM} (hΦ : MLaw m Φ) {μ : Nat → Nat → Int32} {x1 : Int32} (h : wpE (xT 188) ev Q (14, [(0, .ref m), (2, .int ((2 * (μ 0 43)) + x1)), (3, .int 0), (4, .int 0)], [], Φ μ)) : wpE (xT 188) ev Q (0, [(0, .ref m), (1, .int x1)], [], Φ μ) := by
  refine p_push (cc3 c188_0) ?_
  refine p_ald (cc3 c188_1) rfl ?_
  refine pm_geti hΦ (v := μ 0 43) (cc3 c188_2) rfl ?_
  refine p_bin (cc3 c188_5) ?_
  refine p_ild (cc3 c188_6) rfl ?_
  refine p_bin (cc3 c188_7) ?_
  refine p_ist (ls' := [(2, .int ((2 * (μ 0 43)) + x1)), (0, .ref m), (1, .int x1)]) (cc3 c188_8) (by decide) rfl ?_
  refine p_push (cc3 c188_9) ?_
  refine p_ist (ls' := [(3, .int 0), (2, .int ((2 * (μ 0 43)) + x1)), (0, .ref m), (1, .int x1)]) (cc3 c188_10) (by decide) rfl ?_
  refine p_push (cc3 c188_11) ?_
  refine p_ist (ls' := [(4, .int 0), (3, .int 0), (2, .int ((2 * (μ 0 43)) + x1)), (0, .ref m), (1, .int x1)]) (cc3 c188_12) (by decide) rfl ?_
  exact p_lc (ls' := [(0, .ref m), (2, .int ((2 * (μ 0 43)) + x1)), (3, .int 0), (4, .int 0)]) c188_14 rfl rfl h
theorem B188_14 {ev : xV} {Q : Option Value → xM → Prop} {m : Nat} {Φ : (Nat → Nat → Int32) → xM} (hΦ : MLaw m Φ) {μ : Nat → Nat → Int32} {x2 x3 x4 : Int32} (h : vp_in x2 12 ∧ (((μ 33 x2.toNatClampNeg) ≤ x4) → Q (some (.int (μ 38 0))) (Φ μ)) ∧ (¬ ((μ 33 x2.toNatClampNeg) ≤ x4) → vp_in ((160 * x2) + x4) 1920 ∧ (((μ 34 ((160 * x2) + x4).toNatClampNeg) < 0) → (((μ 34 ((160 * x2) + x4).toNatClampNeg) = (-3)) → wpE (xT 188) ev Q (95, [(0, .ref m), (2, .int x2), (3, .int x3), (4, .int x4), (5, .int (μ 34 ((160 * x2) + x4).toNatClampNeg))], [], Φ μ)) ∧ (¬ ((μ 34 ((160 * x2) + x4).toNatClampNeg) = (-3)) → (((μ 34 ((160 * x2) + x4).toNatClampNeg) = (-9)) → wpE (xT 188) ev Q (95, [(0, .ref m), (2, .int x2), (3, .int x3), (4, .int x4), (5, .int (μ 34 ((160 * x2) + x4).toNatClampNeg))], [], Φ μ)) ∧ (¬ ((μ 34 ((160 * x2) + x4).toNatClampNeg) = (-9)) → vp_in ((x3 + (-1)) - 1) 161 ∧ vp_in (x3 + (-1)) 161 ∧ (∃ r μ', ev 189 [.ref m, .int (μ 34 ((160 * x2) + x4).toNatClampNeg), .int (μ 38 ((x3 + (-1)) - 1).toNatClampNeg), .int (μ 38 (x3 + (-1)).toNatClampNeg)] (Φ μ) (some (.int r)) (Φ μ') ∧ wpE (xT 188) ev Q (171, [(3, .int (x3 + (-1))), (5, .int (μ 34 ((160 * x2) + x4).toNatClampNeg)), (0, .ref m), (2, .int x2), (4, .int x4)], [.int r, .int ((x3 + (-1)) - 1), .ref (m + 38)], Φ μ'))))) ∧ (¬ ((μ 34 ((160 * x2) + x4).toNatClampNeg) < 0) → ((10000 ≤ (μ 34 ((160 * x2) + x4).toNatClampNeg)) → vp_in ((μ 34 ((160 * x2) + x4).toNatClampNeg) - 10000) 6 ∧ vp_in x3 161 ∧ wpE (xT 188) ev Q (14, [(0, .ref m), (2, .int x2), (3, .int (x3 + 1)), (4, .int (x4 + 1))], [], Φ (U μ 38 x3.toNatClampNeg (μ 37 ((μ 34 ((160 * x2) + x4).toNatClampNeg) - 10000).toNatClampNeg)))) ∧ (¬ (10000 ≤ (μ 34 ((160 * x2) + x4).toNatClampNeg)) → vp_in x3 161 ∧ wpE (xT 188) ev Q (14, [(0, .ref m), (2, .int x2), (3, .int (x3 + 1)), (4, .int (x4 + 1))], [], Φ (U μ 38 x3.toNatClampNeg (μ 34 ((160 * x2) + x4).toNatClampNeg))))))) : wpE (xT 188) ev Q (14, [(0, .ref m), (2, .int x2), (3, .int x3), (4, .int x4)], [], Φ μ) := by
  refine p_ild (cct c188_14 rfl) rfl ?_
  refine p_ald (cc3 c188_16) rfl ?_
  refine pm_getp hΦ (cc3 c188_17) (c := 33) rfl (by decide) ?_
  refine p_ild (cc3 c188_20) rfl ?_
  obtain ⟨g, h⟩ := h
  refine pm_aldi hΦ (c := 33) (n := 12) (cc3 c188_21) (by decide) rfl rfl rfl g rfl ?_
  refine p_icmp (cc3 c188_22) (fun c => ?_) (fun c => ?_)
  · have h := h.1 c
    refine p_ald (cc3 c188_178) rfl ?_
    refine pm_getp hΦ (cc3 c188_179) (c := 38) rfl (by decide) ?_
    refine p_push (cc3 c188_182) ?_
    refine pm_aldi hΦ (c := 38) (n := 161) (k9 := 0) (cc3 c188_183) (by decide) rfl rfl (by decide) (by unfold vp_in; decide) rfl ?_
    exact p_ri (cc3 c188_184) trivial h
  · have h := h.2 c
    refine p_ald (cc3 c188_25) rfl ?_
    refine pm_getp hΦ (cc3 c188_26) (c := 34) rfl (by decide) ?_
    refine p_push (cc3 c188_29) ?_
    refine p_ild (cc3 c188_32) rfl ?_
    refine p_bin (cc3 c188_33) ?_
    refine p_ild (cc3 c188_34) rfl ?_
    refine p_bin (cc3 c188_36) ?_
    obtain ⟨g, h⟩ := h
    refine pm_aldi hΦ (c := 34) (n := 1920) (cc3 c188_37) (by decide) rfl rfl rfl g rfl ?_
    refine p_ist (ls' := [(5, .int (μ 34 ((160 * x2) + x4).toNatClampNeg)), (0, .ref m), (2, .int x2), (3, .int x3), (4, .int x4)]) (cc3 c188_38) (by decide) rfl ?_
    refine p_ild (cc3 c188_40) rfl ?_
    refine p_if (cc3 c188_42) (fun c => ?_) (fun c => ?_)
    · have h := h.1 c
      refine p_ild (cc3 c188_81) rfl ?_
      refine p_push (cc3 c188_83) ?_
      refine p_icmp (cc3 c188_85) (fun c => ?_) (fun c => ?_)
      · have h := h.1 c
        exact p_lc (ls' := [(0, .ref m), (2, .int x2), (3, .int x3), (4, .int x4), (5, .int (μ 34 ((160 * x2) + x4).toNatClampNeg))]) c188_95 rfl rfl h
      · have h := h.2 c
        refine p_ild (cc3 c188_88) rfl ?_
        refine p_push (cc3 c188_90) ?_
        refine p_icmp (cc3 c188_92) (fun c => ?_) (fun c => ?_)
        · have h := h.1 c
          exact p_lc (ls' := [(0, .ref m), (2, .int x2), (3, .int x3), (4, .int x4), (5, .int (μ 34 ((160 * x2) + x4).toNatClampNeg))]) c188_95 rfl rfl h
        · have h := h.2 c
          refine p_iinc (y := x3 + (-1)) (ls' := [(3, .int (x3 + (-1))), (5, .int (μ 34 ((160 * x2) + x4).toNatClampNeg)), (0, .ref m), (2, .int x2), (4, .int x4)]) (cc3 c188_141) (by decide) rfl rfl rfl ?_
          refine p_ald (cc3 c188_144) rfl ?_
          refine pm_getp hΦ (cc3 c188_145) (c := 38) rfl (by decide) ?_
          refine p_ild (cc3 c188_148) rfl ?_
          refine p_push (cc3 c188_149) ?_
          refine p_bin (cc3 c188_150) ?_
          refine p_ald (cc3 c188_151) rfl ?_
          refine p_ild (cc3 c188_152) rfl ?_
          refine p_ald (cc3 c188_154) rfl ?_
          refine pm_getp hΦ (cc3 c188_155) (c := 38) rfl (by decide) ?_
          refine p_ild (cc3 c188_158) rfl ?_
          refine p_push (cc3 c188_159) ?_
          refine p_bin (cc3 c188_160) ?_
          obtain ⟨g, h⟩ := h
          refine pm_aldi hΦ (c := 38) (n := 161) (cc3 c188_161) (by decide) rfl rfl rfl g rfl ?_
          refine p_ald (cc3 c188_162) rfl ?_
          refine pm_getp hΦ (cc3 c188_163) (c := 38) rfl (by decide) ?_
          refine p_ild (cc3 c188_166) rfl ?_
          obtain ⟨g, h⟩ := h
          refine pm_aldi hΦ (c := 38) (n := 161) (cc3 c188_167) (by decide) rfl rfl rfl g rfl ?_
          obtain ⟨r, μ', he, h⟩ := h
          exact p_callV (cc3 c188_168) (Nat.le_of_ble_eq_true rfl) rfl rfl (Nat.le_of_ble_eq_true rfl) (ml_kd hΦ) he h
    · have h := h.2 c
      refine p_ald (cc3 c188_45) rfl ?_
      refine pm_getp hΦ (cc3 c188_46) (c := 38) rfl (by decide) ?_
      refine p_ild (cc3 c188_49) rfl ?_
      refine p_ild (cc3 c188_50) rfl ?_
      refine p_push (cc3 c188_52) ?_
      refine p_icmp (cc3 c188_55) (fun c => ?_) (fun c => ?_)
      · have h := h.1 c
        refine p_ald (cc3 c188_63) rfl ?_
        refine pm_getp hΦ (cc3 c188_64) (c := 37) rfl (by decide) ?_
        refine p_ild (cc3 c188_67) rfl ?_
        refine p_push (cc3 c188_69) ?_
        refine p_bin (cc3 c188_72) ?_
        obtain ⟨g, h⟩ := h
        refine pm_aldi hΦ (c := 37) (n := 6) (cc3 c188_73) (by decide) rfl rfl rfl g rfl ?_
        refine p_lc (ls' := [(0, .ref m), (2, .int x2), (3, .int x3), (4, .int x4)]) c188_74 rfl rfl ?_
        obtain ⟨g, h⟩ := h
        refine pm_asti hΦ (c := 38) (n := 161) (cct c188_74 rfl) (by decide) rfl rfl rfl g ?_
        refine p_iinc (y := x3 + 1) (ls' := [(3, .int (x3 + 1)), (0, .ref m), (2, .int x2), (4, .int x4)]) (cc3 c188_75) (by decide) rfl rfl rfl ?_
        refine p_goto (cc3 c188_78) ?_
        refine p_lc (ls' := [(0, .ref m), (2, .int x2), (3, .int (x3 + 1)), (4, .int x4)]) c188_172 rfl rfl ?_
        refine p_iinc (y := x4 + 1) (ls' := [(4, .int (x4 + 1)), (0, .ref m), (2, .int x2), (3, .int (x3 + 1))]) (cct c188_172 rfl) (by decide) rfl rfl rfl ?_
        refine p_goto (cc3 c188_175) ?_
        exact p_lc (ls' := [(0, .ref m), (2, .int x2), (3, .int (x3 + 1)), (4, .int (x4 + 1))]) c188_14 rfl rfl h
      · have h := h.2 c
        refine p_ild (cc3 c188_58) rfl ?_
        refine p_goto (cc3 c188_60) ?_
        refine p_lc (ls' := [(0, .ref m), (2, .int x2), (3, .int x3), (4, .int x4)]) c188_74 rfl rfl ?_
        obtain ⟨g, h⟩ := h
        refine pm_asti hΦ (c := 38) (n := 161) (cct c188_74 rfl) (by decide) rfl rfl rfl g ?_
        refine p_iinc (y := x3 + 1) (ls' := [(3, .int (x3 + 1)), (0, .ref m), (2, .int x2), (4, .int x4)]) (cc3 c188_75) (by decide) rfl rfl rfl ?_
        refine p_goto (cc3 c188_78) ?_
        refine p_lc (ls' := [(0, .ref m), (2, .int x2), (3, .int (x3 + 1)), (4, .int x4)]) c188_172 rfl rfl ?_
        refine p_iinc (y := x4 + 1) (ls' := [(4, .int (x4 + 1)), (0, .ref m), (2, .int x2), (3, .int (x3 + 1))]) (cct c188_172 rfl) (by decide) rfl rfl rfl ?_
        refine p_goto (cc3 c188_175) ?_
        exact p_lc (ls' := [(0, .ref m), (2, .int x2), (3, .int (x3 + 1)), (4, .int (x4 + 1))]) c188_14 rfl rfl h
theorem B188_95 {ev : xV} {Q : Option Value → xM → Prop} {m : Nat} {Φ : (Nat → Nat → Int32) → xM} (hΦ : MLaw m Φ) {μ : Nat → Nat → Int32} {x2 x3 x4 x5 : Int32} (h : ((x5 = (-9)) → vp_in (x3 - 1) 161 ∧ vp_in (x3 - 1) 161 ∧ wpE (xT 188) ev Q (14, [(0, .ref m), (2, .int x2), (3, .int x3), (4, .int (x4 + 1))], [], Φ (U μ 38 ((x3 - 1).toNatClampNeg) (-(μ 38 (x3 - 1).toNatClampNeg))))) ∧ (¬ (x5 = (-9)) → vp_in (x3 - 1) 161 ∧ (((μ 38 (x3 - 1).toNatClampNeg) = 0) → vp_in (x3 - 1) 161 ∧ wpE (xT 188) ev Q (14, [(0, .ref m), (2, .int x2), (3, .int x3), (4, .int (x4 + 1))], [], Φ (U μ 38 ((x3 - 1).toNatClampNeg) 1))) ∧ (¬ ((μ 38 (x3 - 1).toNatClampNeg) = 0) → vp_in (x3 - 1) 161 ∧ wpE (xT 188) ev Q (14, [(0, .ref m), (2, .int x2), (3, .int x3), (4, .int (x4 + 1))], [], Φ (U μ 38 ((x3 - 1).toNatClampNeg) 0))))) : wpE (xT 188) ev Q (95, [(0, .ref m), (2, .int x2), (3, .int x3), (4, .int x4), (5, .int x5)], [], Φ μ) := by
  refine p_ald (cct c188_95 rfl) rfl ?_
  refine pm_getp hΦ (cc3 c188_96) (c := 38) rfl (by decide) ?_
  refine p_ild (cc3 c188_99) rfl ?_
  refine p_push (cc3 c188_100) ?_
  refine p_bin (cc3 c188_101) ?_
  refine p_ild (cc3 c188_102) rfl ?_
  refine p_push (cc3 c188_104) ?_
  refine p_icmp (cc3 c188_106) (fun c => ?_) (fun c => ?_)
  · have h := h.1 c
    refine p_ald (cc3 c188_109) rfl ?_
    refine pm_getp hΦ (cc3 c188_110) (c := 38) rfl (by decide) ?_
    refine p_ild (cc3 c188_113) rfl ?_
    refine p_push (cc3 c188_114) ?_
    refine p_bin (cc3 c188_115) ?_
    obtain ⟨g, h⟩ := h
    refine pm_aldi hΦ (c := 38) (n := 161) (cc3 c188_116) (by decide) rfl rfl rfl g rfl ?_
    refine p_un (cc3 c188_117) ?_
    refine p_goto (cc3 c188_118) ?_
    refine p_lc (ls' := [(0, .ref m), (2, .int x2), (3, .int x3), (4, .int x4)]) c188_137 rfl rfl ?_
    obtain ⟨g, h⟩ := h
    refine pm_asti hΦ (c := 38) (n := 161) (cct c188_137 rfl) (by decide) rfl rfl rfl g ?_
    refine p_goto (cc3 c188_138) ?_
    refine p_iinc (y := x4 + 1) (ls' := [(4, .int (x4 + 1)), (0, .ref m), (2, .int x2), (3, .int x3)]) (cct c188_172 rfl) (by decide) rfl rfl rfl ?_
    refine p_goto (cc3 c188_175) ?_
    exact p_lc (ls' := [(0, .ref m), (2, .int x2), (3, .int x3), (4, .int (x4 + 1))]) c188_14 rfl rfl h
  · have h := h.2 c
    refine p_ald (cc3 c188_121) rfl ?_
    refine pm_getp hΦ (cc3 c188_122) (c := 38) rfl (by decide) ?_
    refine p_ild (cc3 c188_125) rfl ?_
    refine p_push (cc3 c188_126) ?_
    refine p_bin (cc3 c188_127) ?_
    obtain ⟨g, h⟩ := h
    refine pm_aldi hΦ (c := 38) (n := 161) (cc3 c188_128) (by decide) rfl rfl rfl g rfl ?_
    refine p_if (cc3 c188_129) (fun c => ?_) (fun c => ?_)
    · have h := h.1 c
      refine p_push (cc3 c188_132) ?_
      refine p_goto (cc3 c188_133) ?_
      refine p_lc (ls' := [(0, .ref m), (2, .int x2), (3, .int x3), (4, .int x4)]) c188_137 rfl rfl ?_
      obtain ⟨g, h⟩ := h
      refine pm_asti hΦ (c := 38) (n := 161) (cct c188_137 rfl) (by decide) rfl rfl rfl g ?_
      refine p_goto (cc3 c188_138) ?_
      refine p_iinc (y := x4 + 1) (ls' := [(4, .int (x4 + 1)), (0, .ref m), (2, .int x2), (3, .int x3)]) (cct c188_172 rfl) (by decide) rfl rfl rfl ?_
      refine p_goto (cc3 c188_175) ?_
      exact p_lc (ls' := [(0, .ref m), (2, .int x2), (3, .int x3), (4, .int (x4 + 1))]) c188_14 rfl rfl h
    · have h := h.2 c
      refine p_push (cc3 c188_136) ?_
      refine p_lc (ls' := [(0, .ref m), (2, .int x2), (3, .int x3), (4, .int x4)]) c188_137 rfl rfl ?_
      obtain ⟨g, h⟩ := h
      refine pm_asti hΦ (c := 38) (n := 161) (cct c188_137 rfl) (by decide) rfl rfl rfl g ?_
      refine p_goto (cc3 c188_138) ?_
      refine p_iinc (y := x4 + 1) (ls' := [(4, .int (x4 + 1)), (0, .ref m), (2, .int x2), (3, .int x3)]) (cct c188_172 rfl) (by decide) rfl rfl rfl ?_
      refine p_goto (cc3 c188_175) ?_
      exact p_lc (ls' := [(0, .ref m), (2, .int x2), (3, .int x3), (4, .int (x4 + 1))]) c188_14 rfl rfl h
theorem B188_171 {ev : xV} {Q : Option Value → xM → Prop} {m : Nat} {Φ : (Nat → Nat → Int32) → xM} (hΦ : MLaw m Φ) {μ : Nat → Nat → Int32} {x3 x5 x2 x4 s0 s1 : Int32} (h : vp_in s1 161 ∧ wpE (xT 188) ev Q (14, [(0, .ref m), (2, .int x2), (3, .int x3), (4, .int (x4 + 1))], [], Φ (U μ 38 s1.toNatClampNeg s0))) : wpE (xT 188) ev Q (171, [(3, .int x3), (5, .int x5), (0, .ref m), (2, .int x2), (4, .int x4)], [.int s0, .int s1, .ref (m + 38)], Φ μ) := by
  obtain ⟨g, h⟩ := h
  refine pm_asti hΦ (c := 38) (n := 161) (cc3 c188_171) (by decide) rfl rfl rfl g ?_
  refine p_lc (ls' := [(0, .ref m), (2, .int x2), (3, .int x3), (4, .int x4)]) c188_172 rfl rfl ?_
  refine p_iinc (y := x4 + 1) (ls' := [(4, .int (x4 + 1)), (0, .ref m), (2, .int x2), (3, .int x3)]) (cct c188_172 rfl) (by decide) rfl rfl rfl ?_
  refine p_goto (cc3 c188_175) ?_
  exact p_lc (ls' := [(0, .ref m), (2, .int x2), (3, .int x3), (4, .int (x4 + 1))]) c188_14 rfl rfl h
theorem B189_0 {ev : xV} {Q : Option Value → xM → Prop} {m : Nat} {Φ : (Nat → Nat → Int32) → xM} (hΦ : MLaw m Φ) {μ : Nat → Nat → Int32} {x1 x2 x3 : Int32} (h : ((x1 = (-7)) → Q (some (.int (x2 - x3))) (Φ μ)) ∧ (¬ (x1 = (-7)) → ((x1 = (-6)) → Q (some (.int (x2 + x3))) (Φ μ)) ∧ (¬ (x1 = (-6)) → ((x1 = (-5)) → ((x2 = x3) → Q (some (.int 1)) (Φ μ)) ∧ (¬ (x2 = x3) → Q (some (.int 0)) (Φ μ))) ∧ (¬ (x1 = (-5)) → ((x1 = (-4)) → ((x3 ≤ x2) → Q (some (.int 0)) (Φ μ)) ∧ (¬ (x3 ≤ x2) → Q (some (.int 1)) (Φ μ))) ∧ (¬ (x1 = (-4)) → ((x1 = (-3)) → Q (some (.int (x2 * x3))) (Φ μ)) ∧ (¬ (x1 = (-3)) → ((x1 = (-2)) → ((x2 = 0) → Q (some (.int 0)) (Φ μ)) ∧ (¬ (x2 = 0) → ((x3 = 0) → Q (some (.int 0)) (Φ μ)) ∧ (¬ (x3 = 0) → Q (some (.int 1)) (Φ μ)))) ∧ (¬ (x1 = (-2)) → ((x1 = (-1)) → ((x2 = 0) → ((x3 = 0) → Q (some (.int 0)) (Φ μ)) ∧ (¬ (x3 = 0) → Q (some (.int 1)) (Φ μ))) ∧ (¬ (x2 = 0) → Q (some (.int 1)) (Φ μ))) ∧ (¬ (x1 = (-1)) → Q (some (.int (x2 * x3))) (Φ μ))))))))) : wpE (xT 189) ev Q (0, [(0, .ref m), (1, .int x1), (2, .int x2), (3, .int x3)], [], Φ μ) := by
  refine p_ild (cc3 c189_0) rfl ?_
  refine p_sw (cc3 c189_1) ?_
  refine ⟨fun c => ?_, fun c => ?_⟩
  · have h := h.1 c
    refine p_ild (cc3 c189_98) rfl ?_
    refine p_ild (cc3 c189_99) rfl ?_
    refine p_bin (cc3 c189_100) ?_
    exact p_ri (cc3 c189_101) trivial h
  · have h := h.2 c
    refine ⟨fun c => ?_, fun c => ?_⟩
    · have h := h.1 c
      refine p_ild (cc3 c189_94) rfl ?_
      refine p_ild (cc3 c189_95) rfl ?_
      refine p_bin (cc3 c189_96) ?_
      exact p_ri (cc3 c189_97) trivial h
    · have h := h.2 c
      refine ⟨fun c => ?_, fun c => ?_⟩
      · have h := h.1 c
        refine p_ild (cc3 c189_83) rfl ?_
        refine p_ild (cc3 c189_84) rfl ?_
        refine p_icmp (cc3 c189_85) (fun c => ?_) (fun c => ?_)
        · have h := h.1 c
          refine p_push (cc3 c189_88) ?_
          refine p_goto (cc3 c189_89) ?_
          refine p_lc (ls' := []) c189_93 rfl rfl ?_
          exact p_ri (cct c189_93 rfl) trivial h
        · have h := h.2 c
          refine p_push (cc3 c189_92) ?_
          refine p_lc (ls' := []) c189_93 rfl rfl ?_
          exact p_ri (cct c189_93 rfl) trivial h
      · have h := h.2 c
        refine ⟨fun c => ?_, fun c => ?_⟩
        · have h := h.1 c
          refine p_ild (cc3 c189_72) rfl ?_
          refine p_ild (cc3 c189_73) rfl ?_
          refine p_icmp (cc3 c189_74) (fun c => ?_) (fun c => ?_)
          · have h := h.1 c
            refine p_push (cc3 c189_81) ?_
            refine p_lc (ls' := []) c189_82 rfl rfl ?_
            exact p_ri (cct c189_82 rfl) trivial h
          · have h := h.2 c
            refine p_push (cc3 c189_77) ?_
            refine p_goto (cc3 c189_78) ?_
            refine p_lc (ls' := []) c189_82 rfl rfl ?_
            exact p_ri (cct c189_82 rfl) trivial h
        · have h := h.2 c
          refine ⟨fun c => ?_, fun c => ?_⟩
          · have h := h.1 c
            refine p_ild (cc3 c189_102) rfl ?_
            refine p_ild (cc3 c189_103) rfl ?_
            refine p_bin (cc3 c189_104) ?_
            exact p_ri (cc3 c189_105) trivial h
          · have h := h.2 c
            refine ⟨fun c => ?_, fun c => ?_⟩
            · have h := h.1 c
              refine p_ild (cc3 c189_58) rfl ?_
              refine p_if (cc3 c189_59) (fun c => ?_) (fun c => ?_)
              · have h := h.1 c
                refine p_lc (ls' := []) c189_70 rfl rfl ?_
                refine p_push (cct c189_70 rfl) ?_
                exact p_ri (cct c189_71 rfl) trivial h
              · have h := h.2 c
                refine p_ild (cc3 c189_62) rfl ?_
                refine p_if (cc3 c189_63) (fun c => ?_) (fun c => ?_)
                · have h := h.1 c
                  refine p_lc (ls' := []) c189_70 rfl rfl ?_
                  refine p_push (cct c189_70 rfl) ?_
                  exact p_ri (cct c189_71 rfl) trivial h
                · have h := h.2 c
                  refine p_push (cc3 c189_66) ?_
                  refine p_goto (cc3 c189_67) ?_
                  refine p_lc (ls' := []) c189_71 rfl rfl ?_
                  exact p_ri (cct c189_71 rfl) trivial h
            · have h := h.2 c
              refine ⟨fun c => ?_, fun c => ?_⟩
              · have h := h.1 c
                refine p_ild (cc3 c189_44) rfl ?_
                refine p_if (cc3 c189_45) (fun c => ?_) (fun c => ?_)
                · have h := h.1 c
                  refine p_ild (cc3 c189_48) rfl ?_
                  refine p_if (cc3 c189_49) (fun c => ?_) (fun c => ?_)
                  · have h := h.1 c
                    refine p_push (cc3 c189_56) ?_
                    refine p_lc (ls' := []) c189_57 rfl rfl ?_
                    exact p_ri (cct c189_57 rfl) trivial h
                  · have h := h.2 c
                    refine p_lc (ls' := []) c189_52 rfl rfl ?_
                    refine p_push (cct c189_52 rfl) ?_
                    refine p_goto (cc3 c189_53) ?_
                    exact p_ri (cct c189_57 rfl) trivial h
                · have h := h.2 c
                  refine p_lc (ls' := []) c189_52 rfl rfl ?_
                  refine p_push (cct c189_52 rfl) ?_
                  refine p_goto (cc3 c189_53) ?_
                  exact p_ri (cct c189_57 rfl) trivial h
              · have h := h.2 c
                refine p_ild (cc3 c189_102) rfl ?_
                refine p_ild (cc3 c189_103) rfl ?_
                refine p_bin (cc3 c189_104) ?_
                exact p_ri (cc3 c189_105) trivial h
theorem B190_0 {ev : xV} {Q : Option Value → xM → Prop} {m : Nat} {Φ : (Nat → Nat → Int32) → xM} (hΦ : MLaw m Φ) {μ : Nat → Nat → Int32} {x1 : Int32} (h : (∃ r μ', ev 147 [.ref m, .int x1] (Φ μ) (some (.int r)) (Φ μ') ∧ wpE (xT 190) ev Q (5, [(0, .ref m), (1, .int x1)], [.int r], Φ μ'))) : wpE (xT 190) ev Q (0, [(0, .ref m), (1, .int x1)], [], Φ μ) := by
  refine p_ald (cc3 c190_0) rfl ?_
  refine p_ild (cc3 c190_1) rfl ?_
  obtain ⟨r, μ', he, h⟩ := h
  exact p_callV (cc3 c190_2) (Nat.le_of_ble_eq_true rfl) rfl rfl (Nat.le_of_ble_eq_true rfl) (ml_kd hΦ) he h
theorem B190_5 {ev : xV} {Q : Option Value → xM → Prop} {m : Nat} {Φ : (Nat → Nat → Int32) → xM} (hΦ : MLaw m Φ) {μ : Nat → Nat → Int32} {x1 s0 : Int32} (h : ((s0 = 0) → Q (some (.int ((-2)))) (Φ μ)) ∧ (¬ (s0 = 0) → (((μ 0 2) = 0) → Q (some (.int ((-3)))) (Φ μ)) ∧ (¬ ((μ 0 2) = 0) → (∃ r μ', ev 149 [.ref m, .int x1, .int 0] (Φ μ) (some (.int r)) (Φ μ') ∧ wpE (xT 190) ev Q (24, [(0, .ref m), (1, .int x1)], [.int r], Φ μ'))))) : wpE (xT 190) ev Q (5, [(0, .ref m), (1, .int x1)], [.int s0], Φ μ) := by
  refine p_if (cc3 c190_5) (fun c => ?_) (fun c => ?_)
  · have h := h.1 c
    refine p_push (cc3 c190_8) ?_
    exact p_ri (cc3 c190_10) trivial h
  · have h := h.2 c
    refine p_ald (cc3 c190_11) rfl ?_
    refine pm_geti hΦ (v := μ 0 2) (cc3 c190_12) rfl ?_
    refine p_if (cc3 c190_15) (fun c => ?_) (fun c => ?_)
    · have h := h.1 c
      refine p_lc (ls' := []) c190_27 rfl rfl ?_
      refine p_push (cct c190_27 rfl) ?_
      exact p_ri (cc3 c190_29) trivial h
    · have h := h.2 c
      refine p_ald (cc3 c190_18) rfl ?_
      refine p_ild (cc3 c190_19) rfl ?_
      refine p_push (cc3 c190_20) ?_
      obtain ⟨r, μ', he, h⟩ := h
      exact p_callV (cc3 c190_21) (Nat.le_of_ble_eq_true rfl) rfl rfl (Nat.le_of_ble_eq_true rfl) (ml_kd hΦ) he h
theorem B190_24 {ev : xV} {Q : Option Value → xM → Prop} {m : Nat} {Φ : (Nat → Nat → Int32) → xM} (hΦ : MLaw m Φ) {μ : Nat → Nat → Int32} {x1 s0 : Int32} (h : ((s0 = 0) → Q (some (.int ((-3)))) (Φ μ)) ∧ (¬ (s0 = 0) → (∃ r μ', ev 191 [.ref m, .int x1] (Φ μ) (some (.int r)) (Φ μ') ∧ wpE (xT 190) ev Q (35, [(0, .ref m), (1, .int x1)], [.int r], Φ μ')))) : wpE (xT 190) ev Q (24, [(0, .ref m), (1, .int x1)], [.int s0], Φ μ) := by
  refine p_if (cc3 c190_24) (fun c => ?_) (fun c => ?_)
  · have h := h.1 c
    refine p_lc (ls' := []) c190_27 rfl rfl ?_
    refine p_push (cct c190_27 rfl) ?_
    exact p_ri (cc3 c190_29) trivial h
  · have h := h.2 c
    refine p_ald (cc3 c190_30) rfl ?_
    refine p_ild (cc3 c190_31) rfl ?_
    obtain ⟨r, μ', he, h⟩ := h
    exact p_callV (cc3 c190_32) (Nat.le_of_ble_eq_true rfl) rfl rfl (Nat.le_of_ble_eq_true rfl) (ml_kd hΦ) he h
theorem B190_35 {ev : xV} {Q : Option Value → xM → Prop} {m : Nat} {Φ : (Nat → Nat → Int32) → xM} (hΦ : MLaw m Φ) {μ : Nat → Nat → Int32} {x1 s0 : Int32} (h : ((s0 = 1000000) → Q (some (.int ((-1)))) (Φ μ)) ∧ (¬ (s0 = 1000000) → Q (some (.int s0)) (Φ μ))) : wpE (xT 190) ev Q (35, [(0, .ref m), (1, .int x1)], [.int s0], Φ μ) := by
  refine p_ist (ls' := [(2, .int s0), (0, .ref m), (1, .int x1)]) (cc3 c190_35) (by decide) rfl ?_
  refine p_ild (cc3 c190_36) rfl ?_
  refine p_push (cc3 c190_37) ?_
  refine p_icmp (cc3 c190_39) (fun c => ?_) (fun c => ?_)
  · have h := h.1 c
    refine p_push (cc3 c190_42) ?_
    refine p_goto (cc3 c190_43) ?_
    refine p_lc (ls' := []) c190_47 rfl rfl ?_
    exact p_ri (cct c190_47 rfl) trivial h
  · have h := h.2 c
    refine p_ild (cc3 c190_46) rfl ?_
    refine p_lc (ls' := []) c190_47 rfl rfl ?_
    exact p_ri (cct c190_47 rfl) trivial h
theorem B191_0 {ev : xV} {Q : Option Value → xM → Prop} {m : Nat} {Φ : (Nat → Nat → Int32) → xM} (hΦ : MLaw m Φ) {μ : Nat → Nat → Int32} {x1 : Int32} (h : (∃ r μ', ev 149 [.ref m, .int x1, .int 0] (Φ μ) (some (.int r)) (Φ μ') ∧ wpE (xT 191) ev Q (6, [(0, .ref m), (1, .int x1)], [.int r], Φ μ'))) : wpE (xT 191) ev Q (0, [(0, .ref m), (1, .int x1)], [], Φ μ) := by
  refine p_ald (cc3 c191_0) rfl ?_
  refine p_ild (cc3 c191_1) rfl ?_
  refine p_push (cc3 c191_2) ?_
  obtain ⟨r, μ', he, h⟩ := h
  exact p_callV (cc3 c191_3) (Nat.le_of_ble_eq_true rfl) rfl rfl (Nat.le_of_ble_eq_true rfl) (ml_kd hΦ) he h
theorem B191_6 {ev : xV} {Q : Option Value → xM → Prop} {m : Nat} {Φ : (Nat → Nat → Int32) → xM} (hΦ : MLaw m Φ) {μ : Nat → Nat → Int32} {x1 s0 : Int32} (h : ((s0 = 0) → Q (some (.int 1000000)) (Φ μ)) ∧ (¬ (s0 = 0) → (∃ r μ', ev 151 [.ref m, .int x1, .int 4, .int 0] (Φ (U (U μ 8 4 9999) 9 4 0)) (some (.int r)) (Φ μ') ∧ wpE (xT 191) ev Q (35, [(0, .ref m), (1, .int x1)], [.int r], Φ μ')))) : wpE (xT 191) ev Q (6, [(0, .ref m), (1, .int x1)], [.int s0], Φ μ) := by
  refine p_if (cc3 c191_6) (fun c => ?_) (fun c => ?_)
  · have h := h.1 c
    refine p_push (cc3 c191_9) ?_
    exact p_ri (cc3 c191_11) trivial h
  · have h := h.2 c
    refine p_ald (cc3 c191_12) rfl ?_
    refine pm_getp hΦ (cc3 c191_13) (c := 8) rfl (by decide) ?_
    refine p_push (cc3 c191_16) ?_
    refine p_push (cc3 c191_17) ?_
    refine pm_asti hΦ (c := 8) (n := 5) (k9 := 4) (cc3 c191_20) (by decide) rfl rfl (by decide) (by unfold vp_in; decide) ?_
    refine p_ald (cc3 c191_21) rfl ?_
    refine pm_getp hΦ (cc3 c191_22) (c := 9) rfl (by decide) ?_
    refine p_push (cc3 c191_25) ?_
    refine p_push (cc3 c191_26) ?_
    refine pm_asti hΦ (c := 9) (n := 5) (k9 := 4) (cc3 c191_27) (by decide) rfl rfl (by decide) (by unfold vp_in; decide) ?_
    refine p_ald (cc3 c191_28) rfl ?_
    refine p_ild (cc3 c191_29) rfl ?_
    refine p_push (cc3 c191_30) ?_
    refine p_push (cc3 c191_31) ?_
    obtain ⟨r, μ', he, h⟩ := h
    exact p_callV (cc3 c191_32) (Nat.le_of_ble_eq_true rfl) rfl rfl (Nat.le_of_ble_eq_true rfl) (ml_kd hΦ) he h
theorem B191_35 {ev : xV} {Q : Option Value → xM → Prop} {m : Nat} {Φ : (Nat → Nat → Int32) → xM} (hΦ : MLaw m Φ) {μ : Nat → Nat → Int32} {x1 s0 : Int32} (h : Q (some (.int s0)) (Φ μ)) : wpE (xT 191) ev Q (35, [(0, .ref m), (1, .int x1)], [.int s0], Φ μ) := by
  exact p_ri (cc3 c191_35) trivial h
theorem B192_0 {ev : xV} {Q : Option Value → xM → Prop} {m : Nat} {Φ : (Nat → Nat → Int32) → xM} (hΦ : MLaw m Φ) {μ : Nat → Nat → Int32} {x1 : Int32} (h : (∃ r μ', ev 129 [.ref m, .int x1, .int 0, .int (((1 : Int32) <<< ((μ 0 13) &&& 31)) - 1)] (Φ μ) (some (.int r)) (Φ μ') ∧ wpE (xT 192) ev Q (14, [(0, .ref m), (1, .int x1)], [.int r], Φ μ'))) : wpE (xT 192) ev Q (0, [(0, .ref m), (1, .int x1)], [], Φ μ) := by
  refine p_ald (cc3 c192_0) rfl ?_
  refine p_ild (cc3 c192_1) rfl ?_
  refine p_push (cc3 c192_2) ?_
  refine p_push (cc3 c192_3) ?_
  refine p_ald (cc3 c192_4) rfl ?_
  refine pm_geti hΦ (v := μ 0 13) (cc3 c192_5) rfl ?_
  refine p_bin (cc3 c192_8) ?_
  refine p_push (cc3 c192_9) ?_
  refine p_bin (cc3 c192_10) ?_
  obtain ⟨r, μ', he, h⟩ := h
  exact p_callV (cc3 c192_11) (Nat.le_of_ble_eq_true rfl) rfl rfl (Nat.le_of_ble_eq_true rfl) (ml_kd hΦ) he h
theorem B192_14 {ev : xV} {Q : Option Value → xM → Prop} {m : Nat} {Φ : (Nat → Nat → Int32) → xM} (hΦ : MLaw m Φ) {μ : Nat → Nat → Int32} {x1 s0 : Int32} (h : ((s0 = 0) → Q (some (.int ((-2)))) (Φ μ)) ∧ (¬ (s0 = 0) → (((μ 0 2) = 0) → Q (some (.int ((-3)))) (Φ μ)) ∧ (¬ ((μ 0 2) = 0) → wpE (xT 192) ev Q (34, [(0, .ref m), (1, .int x1), (2, .int 1), (3, .int 0)], [], Φ μ)))) : wpE (xT 192) ev Q (14, [(0, .ref m), (1, .int x1)], [.int s0], Φ μ) := by
  refine p_if (cc3 c192_14) (fun c => ?_) (fun c => ?_)
  · have h := h.1 c
    refine p_push (cc3 c192_17) ?_
    exact p_ri (cc3 c192_19) trivial h
  · have h := h.2 c
    refine p_ald (cc3 c192_20) rfl ?_
    refine pm_geti hΦ (v := μ 0 2) (cc3 c192_21) rfl ?_
    refine p_if (cc3 c192_24) (fun c => ?_) (fun c => ?_)
    · have h := h.1 c
      refine p_push (cc3 c192_27) ?_
      exact p_ri (cc3 c192_29) trivial h
    · have h := h.2 c
      refine p_push (cc3 c192_30) ?_
      refine p_ist (ls' := [(2, .int 1), (0, .ref m), (1, .int x1)]) (cc3 c192_31) (by decide) rfl ?_
      refine p_push (cc3 c192_32) ?_
      refine p_ist (ls' := [(3, .int 0), (2, .int 1), (0, .ref m), (1, .int x1)]) (cc3 c192_33) (by decide) rfl ?_
      exact p_lc (ls' := [(0, .ref m), (1, .int x1), (2, .int 1), (3, .int 0)]) c192_34 rfl rfl h
theorem B192_34 {ev : xV} {Q : Option Value → xM → Prop} {m : Nat} {Φ : (Nat → Nat → Int32) → xM} (hΦ : MLaw m Φ) {μ : Nat → Nat → Int32} {x1 x2 x3 : Int32} (h : (((μ 0 13) ≤ x3) → wpE (xT 192) ev Q (85, [(0, .ref m), (1, .int x1), (2, .int x2), (3, .int ((-1))), (4, .int 0), (5, .int 0)], [], Φ μ)) ∧ (¬ ((μ 0 13) ≤ x3) → ((((x1 >>> (x3 &&& 31)) &&& (1 : Int32)) = 1) → (∃ r μ', ev 191 [.ref m, .int x3] (Φ μ) (some (.int r)) (Φ μ') ∧ wpE (xT 192) ev Q (61, [(0, .ref m), (1, .int x1), (2, .int x2), (3, .int x3)], [.int r, .int x3, .ref (m + 39)], Φ μ'))) ∧ (¬ (((x1 >>> (x3 &&& 31)) &&& (1 : Int32)) = 1) → vp_in x3 8 ∧ wpE (xT 192) ev Q (34, [(0, .ref m), (1, .int x1), (2, .int (x2 * 5)), (3, .int (x3 + 1))], [], Φ (U μ 39 x3.toNatClampNeg 1000000))))) : wpE (xT 192) ev Q (34, [(0, .ref m), (1, .int x1), (2, .int x2), (3, .int x3)], [], Φ μ) := by
  refine p_ild (cct c192_34 rfl) rfl ?_
  refine p_ald (cc3 c192_35) rfl ?_
  refine pm_geti hΦ (v := μ 0 13) (cc3 c192_36) rfl ?_
  refine p_icmp (cc3 c192_39) (fun c => ?_) (fun c => ?_)
  · have h := h.1 c
    refine p_push (cc3 c192_77) ?_
    refine p_ist (ls' := [(3, .int ((-1))), (0, .ref m), (1, .int x1), (2, .int x2)]) (cc3 c192_78) (by decide) rfl ?_
    refine p_push (cc3 c192_79) ?_
    refine p_ist (ls' := [(4, .int 0), (3, .int ((-1))), (0, .ref m), (1, .int x1), (2, .int x2)]) (cc3 c192_80) (by decide) rfl ?_
    refine p_push (cc3 c192_82) ?_
    refine p_ist (ls' := [(5, .int 0), (4, .int 0), (3, .int ((-1))), (0, .ref m), (1, .int x1), (2, .int x2)]) (cc3 c192_83) (by decide) rfl ?_
    exact p_lc (ls' := [(0, .ref m), (1, .int x1), (2, .int x2), (3, .int ((-1))), (4, .int 0), (5, .int 0)]) c192_85 rfl rfl h
  · have h := h.2 c
    refine p_ald (cc3 c192_42) rfl ?_
    refine pm_getp hΦ (cc3 c192_43) (c := 39) rfl (by decide) ?_
    refine p_ild (cc3 c192_46) rfl ?_
    refine p_ild (cc3 c192_47) rfl ?_
    refine p_ild (cc3 c192_48) rfl ?_
    refine p_bin (cc3 c192_49) ?_
    refine p_push (cc3 c192_50) ?_
    refine p_bin (cc3 c192_51) ?_
    refine p_push (cc3 c192_52) ?_
    refine p_icmp (cc3 c192_53) (fun c => ?_) (fun c => ?_)
    · have h := h.1 c
      refine p_ald (cc3 c192_56) rfl ?_
      refine p_ild (cc3 c192_57) rfl ?_
      obtain ⟨r, μ', he, h⟩ := h
      exact p_callV (cc3 c192_58) (Nat.le_of_ble_eq_true rfl) rfl rfl (Nat.le_of_ble_eq_true rfl) (ml_kd hΦ) he h
    · have h := h.2 c
      refine p_push (cc3 c192_64) ?_
      obtain ⟨g, h⟩ := h
      refine pm_asti hΦ (c := 39) (n := 8) (cct c192_66 rfl) (by decide) rfl rfl rfl g ?_
      refine p_ild (cc3 c192_67) rfl ?_
      refine p_push (cc3 c192_68) ?_
      refine p_bin (cc3 c192_69) ?_
      refine p_ist (ls' := [(2, .int (x2 * 5)), (0, .ref m), (1, .int x1), (3, .int x3)]) (cc3 c192_70) (by decide) rfl ?_
      refine p_iinc (y := x3 + 1) (ls' := [(3, .int (x3 + 1)), (2, .int (x2 * 5)), (0, .ref m), (1, .int x1)]) (cc3 c192_71) (by decide) rfl rfl rfl ?_
      refine p_goto (cc3 c192_74) ?_
      exact p_lc (ls' := [(0, .ref m), (1, .int x1), (2, .int (x2 * 5)), (3, .int (x3 + 1))]) c192_34 rfl rfl h
theorem B192_61 {ev : xV} {Q : Option Value → xM → Prop} {m : Nat} {Φ : (Nat → Nat → Int32) → xM} (hΦ : MLaw m Φ) {μ : Nat → Nat → Int32} {x1 x2 x3 s0 s1 : Int32} (h : vp_in s1 8 ∧ wpE (xT 192) ev Q (34, [(0, .ref m), (1, .int x1), (2, .int (x2 * 5)), (3, .int (x3 + 1))], [], Φ (U μ 39 s1.toNatClampNeg s0))) : wpE (xT 192) ev Q (61, [(0, .ref m), (1, .int x1), (2, .int x2), (3, .int x3)], [.int s0, .int s1, .ref (m + 39)], Φ μ) := by
  refine p_goto (cc3 c192_61) ?_
  obtain ⟨g, h⟩ := h
  refine pm_asti hΦ (c := 39) (n := 8) (cct c192_66 rfl) (by decide) rfl rfl rfl g ?_
  refine p_ild (cc3 c192_67) rfl ?_
  refine p_push (cc3 c192_68) ?_
  refine p_bin (cc3 c192_69) ?_
  refine p_ist (ls' := [(2, .int (x2 * 5)), (0, .ref m), (1, .int x1), (3, .int x3)]) (cc3 c192_70) (by decide) rfl ?_
  refine p_iinc (y := x3 + 1) (ls' := [(3, .int (x3 + 1)), (2, .int (x2 * 5)), (0, .ref m), (1, .int x1)]) (cc3 c192_71) (by decide) rfl rfl rfl ?_
  refine p_goto (cc3 c192_74) ?_
  exact p_lc (ls' := [(0, .ref m), (1, .int x1), (2, .int (x2 * 5)), (3, .int (x3 + 1))]) c192_34 rfl rfl h
theorem B192_85 {ev : xV} {Q : Option Value → xM → Prop} {m : Nat} {Φ : (Nat → Nat → Int32) → xM} (hΦ : MLaw m Φ) {μ : Nat → Nat → Int32} {x1 x2 x3 x4 x5 : Int32} (h : ((x2 ≤ x5) → Q (some (.int x3)) (Φ μ)) ∧ (¬ (x2 ≤ x5) → (∃ r μ', ev 193 [.ref m, .int x5, .int x1] (Φ μ) (some (.int r)) (Φ μ') ∧ wpE (xT 192) ev Q (98, [(0, .ref m), (1, .int x1), (2, .int x2), (3, .int x3), (4, .int x4), (5, .int x5)], [.int r], Φ μ')))) : wpE (xT 192) ev Q (85, [(0, .ref m), (1, .int x1), (2, .int x2), (3, .int x3), (4, .int x4), (5, .int x5)], [], Φ μ) := by
  refine p_ild (cct c192_85 rfl) rfl ?_
  refine p_ild (cc3 c192_87) rfl ?_
  refine p_icmp (cc3 c192_88) (fun c => ?_) (fun c => ?_)
  · have h := h.1 c
    refine p_ild (cc3 c192_200) rfl ?_
    exact p_ri (cc3 c192_201) trivial h
  · have h := h.2 c
    refine p_ald (cc3 c192_91) rfl ?_
    refine p_ild (cc3 c192_92) rfl ?_
    refine p_ild (cc3 c192_94) rfl ?_
    obtain ⟨r, μ', he, h⟩ := h
    exact p_callV (cc3 c192_95) (Nat.le_of_ble_eq_true rfl) rfl rfl (Nat.le_of_ble_eq_true rfl) (ml_kd hΦ) he h
theorem B192_98 {ev : xV} {Q : Option Value → xM → Prop} {m : Nat} {Φ : (Nat → Nat → Int32) → xM} (hΦ : MLaw m Φ) {μ : Nat → Nat → Int32} {x1 x2 x3 x4 x5 s0 : Int32} (h : ((s0 = 0) → wpE (xT 192) ev Q (85, [(0, .ref m), (1, .int x1), (2, .int x2), (3, .int x3), (4, .int x4), (5, .int (x5 + 1))], [], Φ μ)) ∧ (¬ (s0 = 0) → (((μ 0 62) < x3) → wpE (xT 192) ev Q (85, [(0, .ref m), (1, .int x1), (2, .int x2), (3, .int x3), (4, .int x4), (5, .int (x5 + 1))], [], Φ μ)) ∧ (¬ ((μ 0 62) < x3) → (((μ 0 62) = x3) → (((μ 0 63) < x4) → wpE (xT 192) ev Q (143, [(0, .ref m), (1, .int x1), (2, .int x2), (3, .int (μ 0 62)), (4, .int (μ 0 63)), (5, .int x5), (6, .int 0)], [], Φ μ)) ∧ (¬ ((μ 0 63) < x4) → wpE (xT 192) ev Q (85, [(0, .ref m), (1, .int x1), (2, .int x2), (3, .int x3), (4, .int x4), (5, .int (x5 + 1))], [], Φ μ))) ∧ (¬ ((μ 0 62) = x3) → wpE (xT 192) ev Q (143, [(0, .ref m), (1, .int x1), (2, .int x2), (3, .int (μ 0 62)), (4, .int (μ 0 63)), (5, .int x5), (6, .int 0)], [], Φ μ))))) : wpE (xT 192) ev Q (98, [(0, .ref m), (1, .int x1), (2, .int x2), (3, .int x3), (4, .int x4), (5, .int x5)], [.int s0], Φ μ) := by
  refine p_if (cc3 c192_98) (fun c => ?_) (fun c => ?_)
  · have h := h.1 c
    refine p_iinc (y := x5 + 1) (ls' := [(5, .int (x5 + 1)), (0, .ref m), (1, .int x1), (2, .int x2), (3, .int x3), (4, .int x4)]) (cct c192_194 rfl) (by decide) rfl rfl rfl ?_
    refine p_goto (cc3 c192_197) ?_
    exact p_lc (ls' := [(0, .ref m), (1, .int x1), (2, .int x2), (3, .int x3), (4, .int x4), (5, .int (x5 + 1))]) c192_85 rfl rfl h
  · have h := h.2 c
    refine p_ald (cc3 c192_101) rfl ?_
    refine pm_geti hΦ (v := μ 0 62) (cc3 c192_102) rfl ?_
    refine p_ild (cc3 c192_105) rfl ?_
    refine p_icmp (cc3 c192_106) (fun c => ?_) (fun c => ?_)
    · have h := h.1 c
      refine p_iinc (y := x5 + 1) (ls' := [(5, .int (x5 + 1)), (0, .ref m), (1, .int x1), (2, .int x2), (3, .int x3), (4, .int x4)]) (cct c192_194 rfl) (by decide) rfl rfl rfl ?_
      refine p_goto (cc3 c192_197) ?_
      exact p_lc (ls' := [(0, .ref m), (1, .int x1), (2, .int x2), (3, .int x3), (4, .int x4), (5, .int (x5 + 1))]) c192_85 rfl rfl h
    · have h := h.2 c
      refine p_ald (cc3 c192_109) rfl ?_
      refine pm_geti hΦ (v := μ 0 62) (cc3 c192_110) rfl ?_
      refine p_ild (cc3 c192_113) rfl ?_
      refine p_icmp (cc3 c192_114) (fun c => ?_) (fun c => ?_)
      · have h := h.1 c
        refine p_ald (cc3 c192_117) rfl ?_
        refine pm_geti hΦ (v := μ 0 63) (cc3 c192_118) rfl ?_
        refine p_ild (cc3 c192_121) rfl ?_
        refine p_icmp (cc3 c192_123) (fun c => ?_) (fun c => ?_)
        · have h := h.1 c
          refine p_lc (ls' := [(0, .ref m), (1, .int x1), (2, .int x2), (5, .int x5)]) c192_129 rfl rfl ?_
          refine p_ald (cct c192_129 rfl) rfl ?_
          refine pm_geti hΦ (v := μ 0 62) (cc3 c192_130) rfl ?_
          refine p_ist (ls' := [(3, .int (μ 0 62)), (0, .ref m), (1, .int x1), (2, .int x2), (5, .int x5)]) (cc3 c192_133) (by decide) rfl ?_
          refine p_ald (cc3 c192_134) rfl ?_
          refine pm_geti hΦ (v := μ 0 63) (cc3 c192_135) rfl ?_
          refine p_ist (ls' := [(4, .int (μ 0 63)), (3, .int (μ 0 62)), (0, .ref m), (1, .int x1), (2, .int x2), (5, .int x5)]) (cc3 c192_138) (by decide) rfl ?_
          refine p_push (cc3 c192_140) ?_
          refine p_ist (ls' := [(6, .int 0), (4, .int (μ 0 63)), (3, .int (μ 0 62)), (0, .ref m), (1, .int x1), (2, .int x2), (5, .int x5)]) (cc3 c192_141) (by decide) rfl ?_
          exact p_lc (ls' := [(0, .ref m), (1, .int x1), (2, .int x2), (3, .int (μ 0 62)), (4, .int (μ 0 63)), (5, .int x5), (6, .int 0)]) c192_143 rfl rfl h
        · have h := h.2 c
          refine p_goto (cc3 c192_126) ?_
          refine p_iinc (y := x5 + 1) (ls' := [(5, .int (x5 + 1)), (0, .ref m), (1, .int x1), (2, .int x2), (3, .int x3), (4, .int x4)]) (cct c192_194 rfl) (by decide) rfl rfl rfl ?_
          refine p_goto (cc3 c192_197) ?_
          exact p_lc (ls' := [(0, .ref m), (1, .int x1), (2, .int x2), (3, .int x3), (4, .int x4), (5, .int (x5 + 1))]) c192_85 rfl rfl h
      · have h := h.2 c
        refine p_lc (ls' := [(0, .ref m), (1, .int x1), (2, .int x2), (5, .int x5)]) c192_129 rfl rfl ?_
        refine p_ald (cct c192_129 rfl) rfl ?_
        refine pm_geti hΦ (v := μ 0 62) (cc3 c192_130) rfl ?_
        refine p_ist (ls' := [(3, .int (μ 0 62)), (0, .ref m), (1, .int x1), (2, .int x2), (5, .int x5)]) (cc3 c192_133) (by decide) rfl ?_
        refine p_ald (cc3 c192_134) rfl ?_
        refine pm_geti hΦ (v := μ 0 63) (cc3 c192_135) rfl ?_
        refine p_ist (ls' := [(4, .int (μ 0 63)), (3, .int (μ 0 62)), (0, .ref m), (1, .int x1), (2, .int x2), (5, .int x5)]) (cc3 c192_138) (by decide) rfl ?_
        refine p_push (cc3 c192_140) ?_
        refine p_ist (ls' := [(6, .int 0), (4, .int (μ 0 63)), (3, .int (μ 0 62)), (0, .ref m), (1, .int x1), (2, .int x2), (5, .int x5)]) (cc3 c192_141) (by decide) rfl ?_
        exact p_lc (ls' := [(0, .ref m), (1, .int x1), (2, .int x2), (3, .int (μ 0 62)), (4, .int (μ 0 63)), (5, .int x5), (6, .int 0)]) c192_143 rfl rfl h
theorem B192_143 {ev : xV} {Q : Option Value → xM → Prop} {m : Nat} {Φ : (Nat → Nat → Int32) → xM} (hΦ : MLaw m Φ) {μ : Nat → Nat → Int32} {x1 x2 x3 x4 x5 x6 : Int32} (h : ((8 ≤ x6) → wpE (xT 192) ev Q (85, [(0, .ref m), (1, .int x1), (2, .int x2), (3, .int x3), (4, .int x4), (5, .int (x5 + 1))], [], Φ μ)) ∧ (¬ (8 ≤ x6) → (((μ 0 13) ≤ x6) → vp_in x6 8 ∧ wpE (xT 192) ev Q (143, [(0, .ref m), (1, .int x1), (2, .int x2), (3, .int x3), (4, .int x4), (5, .int x5), (6, .int (x6 + 1))], [], Φ (U μ 41 x6.toNatClampNeg (-1)))) ∧ (¬ ((μ 0 13) ≤ x6) → vp_in x6 8 ∧ ((4 ≤ (μ 40 x6.toNatClampNeg)) → vp_in x6 8 ∧ wpE (xT 192) ev Q (143, [(0, .ref m), (1, .int x1), (2, .int x2), (3, .int x3), (4, .int x4), (5, .int x5), (6, .int (x6 + 1))], [], Φ (U μ 41 x6.toNatClampNeg (-1)))) ∧ (¬ (4 ≤ (μ 40 x6.toNatClampNeg)) → vp_in x6 8 ∧ vp_in x6 8 ∧ wpE (xT 192) ev Q (143, [(0, .ref m), (1, .int x1), (2, .int x2), (3, .int x3), (4, .int x4), (5, .int x5), (6, .int (x6 + 1))], [], Φ (U μ 41 x6.toNatClampNeg (μ 40 x6.toNatClampNeg))))))) : wpE (xT 192) ev Q (143, [(0, .ref m), (1, .int x1), (2, .int x2), (3, .int x3), (4, .int x4), (5, .int x5), (6, .int x6)], [], Φ μ) := by
  refine p_ild (cct c192_143 rfl) rfl ?_
  refine p_push (cc3 c192_145) ?_
  refine p_icmp (cc3 c192_147) (fun c => ?_) (fun c => ?_)
  · have h := h.1 c
    refine p_lc (ls' := [(0, .ref m), (1, .int x1), (2, .int x2), (3, .int x3), (4, .int x4), (5, .int x5)]) c192_194 rfl rfl ?_
    refine p_iinc (y := x5 + 1) (ls' := [(5, .int (x5 + 1)), (0, .ref m), (1, .int x1), (2, .int x2), (3, .int x3), (4, .int x4)]) (cct c192_194 rfl) (by decide) rfl rfl rfl ?_
    refine p_goto (cc3 c192_197) ?_
    exact p_lc (ls' := [(0, .ref m), (1, .int x1), (2, .int x2), (3, .int x3), (4, .int x4), (5, .int (x5 + 1))]) c192_85 rfl rfl h
  · have h := h.2 c
    refine p_ald (cc3 c192_150) rfl ?_
    refine pm_getp hΦ (cc3 c192_151) (c := 41) rfl (by decide) ?_
    refine p_ild (cc3 c192_154) rfl ?_
    refine p_ild (cc3 c192_156) rfl ?_
    refine p_ald (cc3 c192_158) rfl ?_
    refine pm_geti hΦ (v := μ 0 13) (cc3 c192_159) rfl ?_
    refine p_icmp (cc3 c192_162) (fun c => ?_) (fun c => ?_)
    · have h := h.1 c
      refine p_push (cct c192_186 rfl) ?_
      obtain ⟨g, h⟩ := h
      refine pm_asti hΦ (c := 41) (n := 8) (cct c192_187 rfl) (by decide) rfl rfl rfl g ?_
      refine p_iinc (y := x6 + 1) (ls' := [(6, .int (x6 + 1)), (0, .ref m), (1, .int x1), (2, .int x2), (3, .int x3), (4, .int x4), (5, .int x5)]) (cc3 c192_188) (by decide) rfl rfl rfl ?_
      refine p_goto (cc3 c192_191) ?_
      exact p_lc (ls' := [(0, .ref m), (1, .int x1), (2, .int x2), (3, .int x3), (4, .int x4), (5, .int x5), (6, .int (x6 + 1))]) c192_143 rfl rfl h
    · have h := h.2 c
      refine p_ald (cc3 c192_165) rfl ?_
      refine pm_getp hΦ (cc3 c192_166) (c := 40) rfl (by decide) ?_
      refine p_ild (cc3 c192_169) rfl ?_
      obtain ⟨g, h⟩ := h
      refine pm_aldi hΦ (c := 40) (n := 8) (cc3 c192_171) (by decide) rfl rfl rfl g rfl ?_
      refine p_push (cc3 c192_172) ?_
      refine p_icmp (cc3 c192_173) (fun c => ?_) (fun c => ?_)
      · have h := h.1 c
        refine p_push (cct c192_186 rfl) ?_
        obtain ⟨g, h⟩ := h
        refine pm_asti hΦ (c := 41) (n := 8) (cct c192_187 rfl) (by decide) rfl rfl rfl g ?_
        refine p_iinc (y := x6 + 1) (ls' := [(6, .int (x6 + 1)), (0, .ref m), (1, .int x1), (2, .int x2), (3, .int x3), (4, .int x4), (5, .int x5)]) (cc3 c192_188) (by decide) rfl rfl rfl ?_
        refine p_goto (cc3 c192_191) ?_
        exact p_lc (ls' := [(0, .ref m), (1, .int x1), (2, .int x2), (3, .int x3), (4, .int x4), (5, .int x5), (6, .int (x6 + 1))]) c192_143 rfl rfl h
      · have h := h.2 c
        refine p_ald (cc3 c192_176) rfl ?_
        refine pm_getp hΦ (cc3 c192_177) (c := 40) rfl (by decide) ?_
        refine p_ild (cc3 c192_180) rfl ?_
        obtain ⟨g, h⟩ := h
        refine pm_aldi hΦ (c := 40) (n := 8) (cc3 c192_182) (by decide) rfl rfl rfl g rfl ?_
        refine p_goto (cc3 c192_183) ?_
        obtain ⟨g, h⟩ := h
        refine pm_asti hΦ (c := 41) (n := 8) (cct c192_187 rfl) (by decide) rfl rfl rfl g ?_
        refine p_iinc (y := x6 + 1) (ls' := [(6, .int (x6 + 1)), (0, .ref m), (1, .int x1), (2, .int x2), (3, .int x3), (4, .int x4), (5, .int x5)]) (cc3 c192_188) (by decide) rfl rfl rfl ?_
        refine p_goto (cc3 c192_191) ?_
        exact p_lc (ls' := [(0, .ref m), (1, .int x1), (2, .int x2), (3, .int x3), (4, .int x4), (5, .int x5), (6, .int (x6 + 1))]) c192_143 rfl rfl h
theorem B193_0 {ev : xV} {Q : Option Value → xM → Prop} {m : Nat} {Φ : (Nat → Nat → Int32) → xM} (hΦ : MLaw m Φ) {μ : Nat → Nat → Int32} {x1 x2 : Int32} (h : wpE (xT 193) ev Q (10, [(0, .ref m), (2, .int x2), (3, .int x1), (4, .int ((μ 0 13) - 1))], [], Φ μ)) : wpE (xT 193) ev Q (0, [(0, .ref m), (1, .int x1), (2, .int x2)], [], Φ μ) := by
  refine p_ild (cc3 c193_0) rfl ?_
  refine p_ist (ls' := [(3, .int x1), (0, .ref m), (1, .int x1), (2, .int x2)]) (cc3 c193_1) (by decide) rfl ?_
  refine p_ald (cc3 c193_2) rfl ?_
  refine pm_geti hΦ (v := μ 0 13) (cc3 c193_3) rfl ?_
  refine p_push (cc3 c193_6) ?_
  refine p_bin (cc3 c193_7) ?_
  refine p_ist (ls' := [(4, .int ((μ 0 13) - 1)), (3, .int x1), (0, .ref m), (1, .int x1), (2, .int x2)]) (cc3 c193_8) (by decide) rfl ?_
  exact p_lc (ls' := [(0, .ref m), (2, .int x2), (3, .int x1), (4, .int ((μ 0 13) - 1))]) c193_10 rfl rfl h
theorem B193_10 {ev : xV} {Q : Option Value → xM → Prop} {m : Nat} {Φ : (Nat → Nat → Int32) → xM} (hΦ : MLaw m Φ) {μ : Nat → Nat → Int32} {x2 x3 x4 : Int32} (h : ((x4 < 0) → wpE (xT 193) ev Q (38, [(0, .ref m), (2, .int x2), (4, .int 0)], [], Φ μ)) ∧ (¬ (x4 < 0) → vp_in x4 8 ∧ wpE (xT 193) ev Q (10, [(0, .ref m), (2, .int x2), (3, .int (x3 / 5)), (4, .int (x4 + (-1)))], [], Φ (U μ 40 x4.toNatClampNeg (x3 - x3 / 5 * 5))))) : wpE (xT 193) ev Q (10, [(0, .ref m), (2, .int x2), (3, .int x3), (4, .int x4)], [], Φ μ) := by
  refine p_ild (cct c193_10 rfl) rfl ?_
  refine p_if (cc3 c193_12) (fun c => ?_) (fun c => ?_)
  · have h := h.1 c
    refine p_push (cc3 c193_35) ?_
    refine p_ist (ls' := [(4, .int 0), (0, .ref m), (2, .int x2), (3, .int x3)]) (cc3 c193_36) (by decide) rfl ?_
    exact p_lc (ls' := [(0, .ref m), (2, .int x2), (4, .int 0)]) c193_38 rfl rfl h
  · have h := h.2 c
    refine p_ald (cc3 c193_15) rfl ?_
    refine pm_getp hΦ (cc3 c193_16) (c := 40) rfl (by decide) ?_
    refine p_ild (cc3 c193_19) rfl ?_
    refine p_ild (cc3 c193_21) rfl ?_
    refine p_push (cc3 c193_22) ?_
    refine p_div (cc3 c193_23) (by decide) ?_
    obtain ⟨g, h⟩ := h
    refine pm_asti hΦ (c := 40) (n := 8) (cc3 c193_24) (by decide) rfl rfl rfl g ?_
    refine p_ild (cc3 c193_25) rfl ?_
    refine p_push (cc3 c193_26) ?_
    refine p_div (cc3 c193_27) (by decide) ?_
    refine p_ist (ls' := [(3, .int (x3 / 5)), (0, .ref m), (2, .int x2), (4, .int x4)]) (cc3 c193_28) (by decide) rfl ?_
    refine p_iinc (y := x4 + (-1)) (ls' := [(4, .int (x4 + (-1))), (3, .int (x3 / 5)), (0, .ref m), (2, .int x2)]) (cc3 c193_29) (by decide) rfl rfl rfl ?_
    refine p_goto (cc3 c193_32) ?_
    exact p_lc (ls' := [(0, .ref m), (2, .int x2), (3, .int (x3 / 5)), (4, .int (x4 + (-1)))]) c193_10 rfl rfl h
theorem B193_38 {ev : xV} {Q : Option Value → xM → Prop} {m : Nat} {Φ : (Nat → Nat → Int32) → xM} (hΦ : MLaw m Φ) {μ : Nat → Nat → Int32} {x2 x4 : Int32} (h : ((4 ≤ x4) → wpE (xT 193) ev Q (98, [(0, .ref m), (2, .int x2), (4, .int 0), (5, .int 0)], [], Φ (U μ 0 62 0))) ∧ (¬ (4 ≤ x4) → (((μ 0 8) ≤ x4) → vp_in x4 4 ∧ wpE (xT 193) ev Q (38, [(0, .ref m), (2, .int x2), (4, .int (x4 + 1))], [], Φ (U μ 42 x4.toNatClampNeg 0))) ∧ (¬ ((μ 0 8) ≤ x4) → vp_in x4 5 ∧ (((μ 7 x4.toNatClampNeg) = 0) → vp_in x4 5 ∧ vp_in x4 4 ∧ wpE (xT 193) ev Q (38, [(0, .ref m), (2, .int x2), (4, .int (x4 + 1))], [], Φ (U μ 42 x4.toNatClampNeg (μ 8 x4.toNatClampNeg)))) ∧ (¬ ((μ 7 x4.toNatClampNeg) = 0) → vp_in x4 4 ∧ wpE (xT 193) ev Q (38, [(0, .ref m), (2, .int x2), (4, .int (x4 + 1))], [], Φ (U μ 42 x4.toNatClampNeg 0)))))) : wpE (xT 193) ev Q (38, [(0, .ref m), (2, .int x2), (4, .int x4)], [], Φ μ) := by
  refine p_ild (cct c193_38 rfl) rfl ?_
  refine p_push (cc3 c193_40) ?_
  refine p_icmp (cc3 c193_41) (fun c => ?_) (fun c => ?_)
  · have h := h.1 c
    refine p_ald (cc3 c193_87) rfl ?_
    refine p_push (cc3 c193_88) ?_
    refine pm_puti hΦ (cc3 c193_89) ?_
    refine p_push (cc3 c193_92) ?_
    refine p_ist (ls' := [(4, .int 0), (0, .ref m), (2, .int x2)]) (cc3 c193_93) (by decide) rfl ?_
    refine p_push (cc3 c193_95) ?_
    refine p_ist (ls' := [(5, .int 0), (4, .int 0), (0, .ref m), (2, .int x2)]) (cc3 c193_96) (by decide) rfl ?_
    exact p_lc (ls' := [(0, .ref m), (2, .int x2), (4, .int 0), (5, .int 0)]) c193_98 rfl rfl h
  · have h := h.2 c
    refine p_ald (cc3 c193_44) rfl ?_
    refine pm_getp hΦ (cc3 c193_45) (c := 42) rfl (by decide) ?_
    refine p_ild (cc3 c193_48) rfl ?_
    refine p_ild (cc3 c193_50) rfl ?_
    refine p_ald (cc3 c193_52) rfl ?_
    refine pm_geti hΦ (v := μ 0 8) (cc3 c193_53) rfl ?_
    refine p_icmp (cc3 c193_56) (fun c => ?_) (fun c => ?_)
    · have h := h.1 c
      refine p_push (cct c193_79 rfl) ?_
      obtain ⟨g, h⟩ := h
      refine pm_asti hΦ (c := 42) (n := 4) (cct c193_80 rfl) (by decide) rfl rfl rfl g ?_
      refine p_iinc (y := x4 + 1) (ls' := [(4, .int (x4 + 1)), (0, .ref m), (2, .int x2)]) (cc3 c193_81) (by decide) rfl rfl rfl ?_
      refine p_goto (cc3 c193_84) ?_
      exact p_lc (ls' := [(0, .ref m), (2, .int x2), (4, .int (x4 + 1))]) c193_38 rfl rfl h
    · have h := h.2 c
      refine p_ald (cc3 c193_59) rfl ?_
      refine pm_getp hΦ (cc3 c193_60) (c := 7) rfl (by decide) ?_
      refine p_ild (cc3 c193_63) rfl ?_
      obtain ⟨g, h⟩ := h
      refine pm_aldi hΦ (c := 7) (n := 5) (cc3 c193_65) (by decide) rfl rfl rfl g rfl ?_
      refine p_if (cc3 c193_66) (fun c => ?_) (fun c => ?_)
      · have h := h.1 c
        refine p_ald (cc3 c193_69) rfl ?_
        refine pm_getp hΦ (cc3 c193_70) (c := 8) rfl (by decide) ?_
        refine p_ild (cc3 c193_73) rfl ?_
        obtain ⟨g, h⟩ := h
        refine pm_aldi hΦ (c := 8) (n := 5) (cc3 c193_75) (by decide) rfl rfl rfl g rfl ?_
        refine p_goto (cc3 c193_76) ?_
        obtain ⟨g, h⟩ := h
        refine pm_asti hΦ (c := 42) (n := 4) (cct c193_80 rfl) (by decide) rfl rfl rfl g ?_
        refine p_iinc (y := x4 + 1) (ls' := [(4, .int (x4 + 1)), (0, .ref m), (2, .int x2)]) (cc3 c193_81) (by decide) rfl rfl rfl ?_
        refine p_goto (cc3 c193_84) ?_
        exact p_lc (ls' := [(0, .ref m), (2, .int x2), (4, .int (x4 + 1))]) c193_38 rfl rfl h
      · have h := h.2 c
        refine p_push (cct c193_79 rfl) ?_
        obtain ⟨g, h⟩ := h
        refine pm_asti hΦ (c := 42) (n := 4) (cct c193_80 rfl) (by decide) rfl rfl rfl g ?_
        refine p_iinc (y := x4 + 1) (ls' := [(4, .int (x4 + 1)), (0, .ref m), (2, .int x2)]) (cc3 c193_81) (by decide) rfl rfl rfl ?_
        refine p_goto (cc3 c193_84) ?_
        exact p_lc (ls' := [(0, .ref m), (2, .int x2), (4, .int (x4 + 1))]) c193_38 rfl rfl h
theorem B193_98 {ev : xV} {Q : Option Value → xM → Prop} {m : Nat} {Φ : (Nat → Nat → Int32) → xM} (hΦ : MLaw m Φ) {μ : Nat → Nat → Int32} {x2 x4 x5 : Int32} (h : (((μ 0 13) ≤ x5) → Q (some (.int 1)) (Φ (U μ 0 63 ((((x4 &&& (1 : Int32)) + ((x4 >>> ((1 : Int32) &&& 31)) &&& (1 : Int32))) + ((x4 >>> ((2 : Int32) &&& 31)) &&& (1 : Int32))) + ((x4 >>> ((3 : Int32) &&& 31)) &&& (1 : Int32)))))) ∧ (¬ ((μ 0 13) ≤ x5) → vp_in x5 8 ∧ (((μ 40 x5.toNatClampNeg) = 4) → wpE (xT 193) ev Q (98, [(0, .ref m), (2, .int x2), (4, .int x4), (5, .int (x5 + 1))], [], Φ μ)) ∧ (¬ ((μ 40 x5.toNatClampNeg) = 4) → ((((x2 >>> (x5 &&& 31)) &&& (1 : Int32)) = 0) → Q (some (.int 0)) (Φ μ)) ∧ (¬ (((x2 >>> (x5 &&& 31)) &&& (1 : Int32)) = 0) → vp_in x5 8 ∧ vp_in (μ 40 x5.toNatClampNeg) 4 ∧ (((μ 39 x5.toNatClampNeg) ≤ (μ 42 (μ 40 x5.toNatClampNeg).toNatClampNeg)) → vp_in (μ 40 x5.toNatClampNeg) 4 ∧ vp_in x5 8 ∧ vp_in (μ 40 x5.toNatClampNeg) 4 ∧ wpE (xT 193) ev Q (98, [(0, .ref m), (2, .int x2), (4, .int (x4 ||| ((1 : Int32) <<< ((μ 40 x5.toNatClampNeg) &&& 31)))), (5, .int (x5 + 1))], [], Φ (U (U μ 42 ((μ 40 x5.toNatClampNeg).toNatClampNeg) ((μ 42 (μ 40 x5.toNatClampNeg).toNatClampNeg) - (μ 39 x5.toNatClampNeg))) 0 62 ((μ 0 62) + 1)))) ∧ (¬ ((μ 39 x5.toNatClampNeg) ≤ (μ 42 (μ 40 x5.toNatClampNeg).toNatClampNeg)) → Q (some (.int 0)) (Φ μ)))))) : wpE (xT 193) ev Q (98, [(0, .ref m), (2, .int x2), (4, .int x4), (5, .int x5)], [], Φ μ) := by
  refine p_ild (cct c193_98 rfl) rfl ?_
  refine p_ald (cc3 c193_100) rfl ?_
  refine pm_geti hΦ (v := μ 0 13) (cc3 c193_101) rfl ?_
  refine p_icmp (cc3 c193_104) (fun c => ?_) (fun c => ?_)
  · have h := h.1 c
    refine p_ald (cc3 c193_195) rfl ?_
    refine p_ild (cc3 c193_196) rfl ?_
    refine p_push (cc3 c193_198) ?_
    refine p_bin (cc3 c193_199) ?_
    refine p_ild (cc3 c193_200) rfl ?_
    refine p_push (cc3 c193_202) ?_
    refine p_bin (cc3 c193_203) ?_
    refine p_push (cc3 c193_204) ?_
    refine p_bin (cc3 c193_205) ?_
    refine p_bin (cc3 c193_206) ?_
    refine p_ild (cc3 c193_207) rfl ?_
    refine p_push (cc3 c193_209) ?_
    refine p_bin (cc3 c193_210) ?_
    refine p_push (cc3 c193_211) ?_
    refine p_bin (cc3 c193_212) ?_
    refine p_bin (cc3 c193_213) ?_
    refine p_ild (cc3 c193_214) rfl ?_
    refine p_push (cc3 c193_216) ?_
    refine p_bin (cc3 c193_217) ?_
    refine p_push (cc3 c193_218) ?_
    refine p_bin (cc3 c193_219) ?_
    refine p_bin (cc3 c193_220) ?_
    refine pm_puti hΦ (cc3 c193_221) ?_
    refine p_push (cc3 c193_224) ?_
    exact p_ri (cc3 c193_225) (by decide) h
  · have h := h.2 c
    refine p_ald (cc3 c193_107) rfl ?_
    refine pm_getp hΦ (cc3 c193_108) (c := 40) rfl (by decide) ?_
    refine p_ild (cc3 c193_111) rfl ?_
    obtain ⟨g, h⟩ := h
    refine pm_aldi hΦ (c := 40) (n := 8) (cc3 c193_113) (by decide) rfl rfl rfl g rfl ?_
    refine p_ist (ls' := [(6, .int (μ 40 x5.toNatClampNeg)), (0, .ref m), (2, .int x2), (4, .int x4), (5, .int x5)]) (cc3 c193_114) (by decide) rfl ?_
    refine p_ild (cc3 c193_116) rfl ?_
    refine p_push (cc3 c193_118) ?_
    refine p_icmp (cc3 c193_119) (fun c => ?_) (fun c => ?_)
    · have h := h.1 c
      refine p_goto (cc3 c193_122) ?_
      refine p_lc (ls' := [(0, .ref m), (2, .int x2), (4, .int x4), (5, .int x5)]) c193_189 rfl rfl ?_
      refine p_iinc (y := x5 + 1) (ls' := [(5, .int (x5 + 1)), (0, .ref m), (2, .int x2), (4, .int x4)]) (cct c193_189 rfl) (by decide) rfl rfl rfl ?_
      refine p_goto (cc3 c193_192) ?_
      exact p_lc (ls' := [(0, .ref m), (2, .int x2), (4, .int x4), (5, .int (x5 + 1))]) c193_98 rfl rfl h
    · have h := h.2 c
      refine p_ild (cc3 c193_125) rfl ?_
      refine p_ild (cc3 c193_126) rfl ?_
      refine p_bin (cc3 c193_128) ?_
      refine p_push (cc3 c193_129) ?_
      refine p_bin (cc3 c193_130) ?_
      refine p_if (cc3 c193_131) (fun c => ?_) (fun c => ?_)
      · have h := h.1 c
        refine p_lc (ls' := []) c193_151 rfl rfl ?_
        refine p_push (cct c193_151 rfl) ?_
        exact p_ri (cc3 c193_152) (by decide) h
      · have h := h.2 c
        refine p_ald (cc3 c193_134) rfl ?_
        refine pm_getp hΦ (cc3 c193_135) (c := 39) rfl (by decide) ?_
        refine p_ild (cc3 c193_138) rfl ?_
        obtain ⟨g, h⟩ := h
        refine pm_aldi hΦ (c := 39) (n := 8) (cc3 c193_140) (by decide) rfl rfl rfl g rfl ?_
        refine p_ald (cc3 c193_141) rfl ?_
        refine pm_getp hΦ (cc3 c193_142) (c := 42) rfl (by decide) ?_
        refine p_ild (cc3 c193_145) rfl ?_
        obtain ⟨g, h⟩ := h
        refine pm_aldi hΦ (c := 42) (n := 4) (cc3 c193_147) (by decide) rfl rfl rfl g rfl ?_
        refine p_icmp (cc3 c193_148) (fun c => ?_) (fun c => ?_)
        · have h := h.1 c
          refine p_ald (cc3 c193_153) rfl ?_
          refine pm_getp hΦ (cc3 c193_154) (c := 42) rfl (by decide) ?_
          refine p_ild (cc3 c193_157) rfl ?_
          refine p_dup2 (cc3 c193_159) rfl rfl ?_
          obtain ⟨g, h⟩ := h
          refine pm_aldi hΦ (c := 42) (n := 4) (cc3 c193_160) (by decide) rfl rfl rfl g rfl ?_
          refine p_ald (cc3 c193_161) rfl ?_
          refine pm_getp hΦ (cc3 c193_162) (c := 39) rfl (by decide) ?_
          refine p_ild (cc3 c193_165) rfl ?_
          obtain ⟨g, h⟩ := h
          refine pm_aldi hΦ (c := 39) (n := 8) (cc3 c193_167) (by decide) rfl rfl rfl g rfl ?_
          refine p_bin (cc3 c193_168) ?_
          obtain ⟨g, h⟩ := h
          refine pm_asti hΦ (c := 42) (n := 4) (cc3 c193_169) (by decide) rfl rfl rfl g ?_
          refine p_ald (cc3 c193_170) rfl ?_
          refine p_dup (cc3 c193_171) rfl ?_
          refine pm_geti hΦ (v := μ 0 62) (cc3 c193_172) rfl ?_
          refine p_push (cc3 c193_175) ?_
          refine p_bin (cc3 c193_176) ?_
          refine pm_puti hΦ (cc3 c193_177) ?_
          refine p_ild (cc3 c193_180) rfl ?_
          refine p_push (cc3 c193_182) ?_
          refine p_ild (cc3 c193_183) rfl ?_
          refine p_bin (cc3 c193_185) ?_
          refine p_bin (cc3 c193_186) ?_
          refine p_ist (ls' := [(4, .int (x4 ||| ((1 : Int32) <<< ((μ 40 x5.toNatClampNeg) &&& 31)))), (6, .int (μ 40 x5.toNatClampNeg)), (0, .ref m), (2, .int x2), (5, .int x5)]) (cc3 c193_187) (by decide) rfl ?_
          refine p_lc (ls' := [(0, .ref m), (2, .int x2), (4, .int (x4 ||| ((1 : Int32) <<< ((μ 40 x5.toNatClampNeg) &&& 31)))), (5, .int x5)]) c193_189 rfl rfl ?_
          refine p_iinc (y := x5 + 1) (ls' := [(5, .int (x5 + 1)), (0, .ref m), (2, .int x2), (4, .int (x4 ||| ((1 : Int32) <<< ((μ 40 x5.toNatClampNeg) &&& 31))))]) (cct c193_189 rfl) (by decide) rfl rfl rfl ?_
          refine p_goto (cc3 c193_192) ?_
          exact p_lc (ls' := [(0, .ref m), (2, .int x2), (4, .int (x4 ||| ((1 : Int32) <<< ((μ 40 x5.toNatClampNeg) &&& 31)))), (5, .int (x5 + 1))]) c193_98 rfl rfl h
        · have h := h.2 c
          refine p_lc (ls' := []) c193_151 rfl rfl ?_
          refine p_push (cct c193_151 rfl) ?_
          exact p_ri (cc3 c193_152) (by decide) h
