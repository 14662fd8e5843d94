theorem B185_0 {ev : xV} {Q : Option Value → xM → Prop} {m : Nat} {Φ : (Nat → Nat → Int32) → xM} (hΦ : MLaw m Φ) {μ : Nat → Nat → Int32} (h : (∃ r μ', ev 177 [.ref m, .int 2] (Φ μ) (some (.int r)) (Φ μ') ∧ wpE (xT 185) ev Q (5, [(0, .ref m)], [.int r], Φ μ'))) : wpE (xT 185) ev Q (0, [(0, .ref m)], [], Φ μ) := by
  refine p_ald rfl rfl ?_
  refine p_push (v := .int 2) rfl ?_
  obtain ⟨r, μ', he, h⟩ := h
  exact p_callV rfl (Nat.le_of_ble_eq_true rfl) rfl rfl (Nat.le_of_ble_eq_true rfl) (ml_kd hΦ) he h
theorem B185_5 {ev : xV} {Q : Option Value → xM → Prop} {m : Nat} {Φ : (Nat → Nat → Int32) → xM} (hΦ : MLaw m Φ) {μ : Nat → Nat → Int32} {s0 : Int32} (h : ((s0 = 0) → (∃ r μ', ev 177 [.ref m, .int 3] (Φ μ) (some (.int r)) (Φ μ') ∧ wpE (xT 185) ev Q (17, [(0, .ref m)], [.int r], Φ μ'))) ∧ (¬ (s0 = 0) → Q (some (.int ((-1)))) (Φ μ))) : wpE (xT 185) ev Q (5, [(0, .ref m)], [.int s0], Φ μ) := by
  refine p_if rfl (fun c => ?_) (fun c => ?_)
  · have h := h.1 c
    refine p_ald rfl rfl ?_
    refine p_push (v := .int 3) rfl ?_
    obtain ⟨r, μ', he, h⟩ := h
    exact p_callV rfl (Nat.le_of_ble_eq_true rfl) rfl rfl (Nat.le_of_ble_eq_true rfl) (ml_kd hΦ) he h
  · have h := h.2 c
    refine p_push (v := .int (-1)) rfl ?_
    refine p_goto rfl ?_
    refine p_loc (ls' := []) rfl ?_
    exact p_ri rfl trivial h
theorem B185_17 {ev : xV} {Q : Option Value → xM → Prop} {m : Nat} {Φ : (Nat → Nat → Int32) → xM} (hΦ : MLaw m Φ) {μ : Nat → Nat → Int32} {s0 : Int32} (h : ((s0 = 0) → (∃ r μ', ev 180 [.ref m, .int 60] (Φ μ) (some (.int r)) (Φ μ') ∧ wpE (xT 185) ev Q (31, [(0, .ref m)], [.int r], Φ μ'))) ∧ (¬ (s0 = 0) → Q (some (.int ((-2)))) (Φ μ))) : wpE (xT 185) ev Q (17, [(0, .ref m)], [.int s0], Φ μ) := by
  refine p_if rfl (fun c => ?_) (fun c => ?_)
  · have h := h.1 c
    refine p_ald rfl rfl ?_
    refine p_push (v := .int 60) rfl ?_
    obtain ⟨r, μ', he, h⟩ := h
    exact p_callV rfl (Nat.le_of_ble_eq_true rfl) rfl rfl (Nat.le_of_ble_eq_true rfl) (ml_kd hΦ) he h
  · have h := h.2 c
    refine p_push (v := .int (-2)) rfl ?_
    refine p_goto rfl ?_
    refine p_loc (ls' := []) rfl ?_
    exact p_ri rfl trivial h
theorem B185_31 {ev : xV} {Q : Option Value → xM → Prop} {m : Nat} {Φ : (Nat → Nat → Int32) → xM} (hΦ : MLaw m Φ) {μ : Nat → Nat → Int32} {s0 : Int32} (h : ((s0 = 0) → (∃ r μ', ev 180 [.ref m, .int 61] (Φ μ) (some (.int r)) (Φ μ') ∧ wpE (xT 185) ev Q (45, [(0, .ref m)], [.int r], Φ μ'))) ∧ (¬ (s0 = 0) → Q (some (.int ((-4)))) (Φ μ))) : wpE (xT 185) ev Q (31, [(0, .ref m)], [.int s0], Φ μ) := by
  refine p_if rfl (fun c => ?_) (fun c => ?_)
  · have h := h.1 c
    refine p_ald rfl rfl ?_
    refine p_push (v := .int 61) rfl ?_
    obtain ⟨r, μ', he, h⟩ := h
    exact p_callV rfl (Nat.le_of_ble_eq_true rfl) rfl rfl (Nat.le_of_ble_eq_true rfl) (ml_kd hΦ) he h
  · have h := h.2 c
    refine p_push (v := .int (-4)) rfl ?_
    refine p_goto rfl ?_
    refine p_loc (ls' := []) rfl ?_
    exact p_ri rfl trivial h
theorem B185_45 {ev : xV} {Q : Option Value → xM → Prop} {m : Nat} {Φ : (Nat → Nat → Int32) → xM} (hΦ : MLaw m Φ) {μ : Nat → Nat → Int32} {s0 : Int32} (h : ((s0 = 0) → (∃ r μ', ev 180 [.ref m, .int 43] (Φ μ) (some (.int r)) (Φ μ') ∧ wpE (xT 185) ev Q (59, [(0, .ref m)], [.int r], Φ μ'))) ∧ (¬ (s0 = 0) → Q (some (.int ((-5)))) (Φ μ))) : wpE (xT 185) ev Q (45, [(0, .ref m)], [.int s0], Φ μ) := by
  refine p_if rfl (fun c => ?_) (fun c => ?_)
  · have h := h.1 c
    refine p_ald rfl rfl ?_
    refine p_push (v := .int 43) rfl ?_
    obtain ⟨r, μ', he, h⟩ := h
    exact p_callV rfl (Nat.le_of_ble_eq_true rfl) rfl rfl (Nat.le_of_ble_eq_true rfl) (ml_kd hΦ) he h
  · have h := h.2 c
    refine p_push (v := .int (-5)) rfl ?_
    refine p_goto rfl ?_
    refine p_loc (ls' := []) rfl ?_
    exact p_ri rfl trivial h
theorem B185_59 {ev : xV} {Q : Option Value → xM → Prop} {m : Nat} {Φ : (Nat → Nat → Int32) → xM} (hΦ : MLaw m Φ) {μ : Nat → Nat → Int32} {s0 : Int32} (h : ((s0 = 0) → (∃ r μ', ev 180 [.ref m, .int 45] (Φ μ) (some (.int r)) (Φ μ') ∧ wpE (xT 185) ev Q (73, [(0, .ref m)], [.int r], Φ μ'))) ∧ (¬ (s0 = 0) → Q (some (.int ((-6)))) (Φ μ))) : wpE (xT 185) ev Q (59, [(0, .ref m)], [.int s0], Φ μ) := by
  refine p_if rfl (fun c => ?_) (fun c => ?_)
  · have h := h.1 c
    refine p_ald rfl rfl ?_
    refine p_push (v := .int 45) rfl ?_
    obtain ⟨r, μ', he, h⟩ := h
    exact p_callV rfl (Nat.le_of_ble_eq_true rfl) rfl rfl (Nat.le_of_ble_eq_true rfl) (ml_kd hΦ) he h
  · have h := h.2 c
    refine p_push (v := .int (-6)) rfl ?_
    refine p_goto rfl ?_
    refine p_loc (ls' := []) rfl ?_
    exact p_ri rfl trivial h
theorem B185_73 {ev : xV} {Q : Option Value → xM → Prop} {m : Nat} {Φ : (Nat → Nat → Int32) → xM} (hΦ : MLaw m Φ) {μ : Nat → Nat → Int32} {s0 : Int32} (h : ((s0 = 0) → (∃ r μ', ev 180 [.ref m, .int 42] (Φ μ) (some (.int r)) (Φ μ') ∧ wpE (xT 185) ev Q (87, [(0, .ref m)], [.int r], Φ μ'))) ∧ (¬ (s0 = 0) → Q (some (.int ((-7)))) (Φ μ))) : wpE (xT 185) ev Q (73, [(0, .ref m)], [.int s0], Φ μ) := by
  refine p_if rfl (fun c => ?_) (fun c => ?_)
  · have h := h.1 c
    refine p_ald rfl rfl ?_
    refine p_push (v := .int 42) rfl ?_
    obtain ⟨r, μ', he, h⟩ := h
    exact p_callV rfl (Nat.le_of_ble_eq_true rfl) rfl rfl (Nat.le_of_ble_eq_true rfl) (ml_kd hΦ) he h
  · have h := h.2 c
    refine p_push (v := .int (-7)) rfl ?_
    refine p_goto rfl ?_
    refine p_loc (ls' := []) rfl ?_
    exact p_ri rfl trivial h
theorem B185_87 {ev : xV} {Q : Option Value → xM → Prop} {m : Nat} {Φ : (Nat → Nat → Int32) → xM} (hΦ : MLaw m Φ) {μ : Nat → Nat → Int32} {s0 : Int32} (h : ((s0 = 0) → Q (some (.int 0)) (Φ μ)) ∧ (¬ (s0 = 0) → Q (some (.int ((-8)))) (Φ μ))) : wpE (xT 185) ev Q (87, [(0, .ref m)], [.int s0], Φ μ) := by
  refine p_if rfl (fun c => ?_) (fun c => ?_)
  · have h := h.1 c
    refine p_push (v := .int 0) rfl ?_
    refine p_loc (ls' := []) rfl ?_
    exact p_ri rfl trivial h
  · have h := h.2 c
    refine p_push (v := .int (-8)) rfl ?_
    refine p_goto rfl ?_
    refine p_loc (ls' := []) rfl ?_
    exact p_ri rfl trivial h
theorem B186_0 {ev : xV} {Q : Option Value → xM → Prop} {m : Nat} {Φ : (Nat → Nat → Int32) → xM} (hΦ : MLaw m Φ) {μ : Nat → Nat → Int32} {x1 : Int32} (h : (∃ r μ', ev 129 [.ref m, .int x1, .int 0, .int ((μ 0 42) - 1)] (Φ μ) (some (.int r)) (Φ μ') ∧ wpE (xT 186) ev Q (12, [(0, .ref m), (1, .int x1)], [.int r], Φ μ'))) : wpE (xT 186) ev Q (0, [(0, .ref m), (1, .int x1)], [], Φ μ) := by
  refine p_ald rfl rfl ?_
  refine p_ild rfl rfl ?_
  refine p_push (v := .int 0) rfl ?_
  refine p_ald rfl rfl ?_
  refine pm_geti hΦ (v := μ 0 42) rfl rfl ?_
  refine p_push (v := .int 1) rfl ?_
  refine p_bin rfl ?_
  obtain ⟨r, μ', he, h⟩ := h
  exact p_callV rfl (Nat.le_of_ble_eq_true rfl) rfl rfl (Nat.le_of_ble_eq_true rfl) (ml_kd hΦ) he h
theorem B186_12 {ev : xV} {Q : Option Value → xM → Prop} {m : Nat} {Φ : (Nat → Nat → Int32) → xM} (hΦ : MLaw m Φ) {μ : Nat → Nat → Int32} {x1 s0 : Int32} (h : ((s0 = 0) → Q (some (.int ((-2)))) (Φ μ)) ∧ (¬ (s0 = 0) → Q (some (.int (μ 0 43))) (Φ (U μ 0 43 x1)))) : wpE (xT 186) ev Q (12, [(0, .ref m), (1, .int x1)], [.int s0], Φ μ) := by
  refine p_if rfl (fun c => ?_) (fun c => ?_)
  · have h := h.1 c
    refine p_push (v := .int (-2)) rfl ?_
    exact p_ri rfl trivial h
  · have h := h.2 c
    refine p_ald rfl rfl ?_
    refine pm_geti hΦ (v := μ 0 43) rfl rfl ?_
    refine p_ist (ls' := [(2, .int (μ 0 43)), (0, .ref m), (1, .int x1)]) rfl (by decide) rfl ?_
    refine p_ald rfl rfl ?_
    refine p_ild rfl rfl ?_
    refine pm_puti hΦ rfl ?_
    refine p_ild rfl rfl ?_
    exact p_ri rfl trivial h
theorem B187_0 {ev : xV} {Q : Option Value → xM → Prop} {m : Nat} {Φ : (Nat → Nat → Int32) → xM} (hΦ : MLaw m Φ) {μ : Nat → Nat → Int32} {x1 x2 : Int32} (h : (∃ r μ', ev 160 [.ref m, .int x1] (Φ μ) (some (.int r)) (Φ μ') ∧ wpE (xT 187) ev Q (5, [(0, .ref m), (1, .int x1), (2, .int x2)], [.int r], Φ μ'))) : wpE (xT 187) ev Q (0, [(0, .ref m), (1, .int x1), (2, .int x2)], [], Φ μ) := by
  refine p_ald rfl rfl ?_
  refine p_ild rfl rfl ?_
  obtain ⟨r, μ', he, h⟩ := h
  exact p_callV rfl (Nat.le_of_ble_eq_true rfl) rfl rfl (Nat.le_of_ble_eq_true rfl) (ml_kd hΦ) he h
theorem B187_5 {ev : xV} {Q : Option Value → xM → Prop} {m : Nat} {Φ : (Nat → Nat → Int32) → xM} (hΦ : MLaw m Φ) {μ : Nat → Nat → Int32} {x1 x2 s0 : Int32} (h : ((s0 = 0) → Q (some (.long ((-4611686018427387904)))) (Φ μ)) ∧ (¬ (s0 = 0) → (∃ r μ', ev 129 [.ref m, .int x2, .int 0, .int 1] (Φ μ) (some (.int r)) (Φ μ') ∧ wpE (xT 187) ev Q (15, [(0, .ref m), (1, .int x1), (2, .int x2)], [.int r], Φ μ')))) : wpE (xT 187) ev Q (5, [(0, .ref m), (1, .int x1), (2, .int x2)], [.int s0], Φ μ) := by
  refine p_if rfl (fun c => ?_) (fun c => ?_)
  · have h := h.1 c
    refine p_loc (ls' := []) rfl ?_
    refine p_push (v := .long (-4611686018427387904)) rfl ?_
    exact p_rl rfl h
  · have h := h.2 c
    refine p_ald rfl rfl ?_
    refine p_ild rfl rfl ?_
    refine p_push (v := .int 0) rfl ?_
    refine p_push (v := .int 1) rfl ?_
    obtain ⟨r, μ', he, h⟩ := h
    exact p_callV rfl (Nat.le_of_ble_eq_true rfl) rfl rfl (Nat.le_of_ble_eq_true rfl) (ml_kd hΦ) he h
theorem B187_15 {ev : xV} {Q : Option Value → xM → Prop} {m : Nat} {Φ : (Nat → Nat → Int32) → xM} (hΦ : MLaw m Φ) {μ : Nat → Nat → Int32} {x1 x2 s0 : Int32} (h : ((s0 = 0) → Q (some (.long ((-4611686018427387904)))) (Φ μ)) ∧ (¬ (s0 = 0) → vp_in x1 8 ∧ vp_in x1 8 ∧ vp_in x1 8 ∧ vp_in x1 8 ∧ vp_in x1 8 ∧ vp_in x1 8 ∧ vp_in x1 8 ∧ (∃ r μ', ev 188 [.ref m, .int x2] (Φ (U (U (U (U (U (U μ 37 0.toNatClampNeg ((μ 22 x1.toNatClampNeg) + (μ 18 x1.toNatClampNeg))) 37 1.toNatClampNeg ((U μ 37 0.toNatClampNeg ((μ 22 x1.toNatClampNeg) + (μ 18 x1.toNatClampNeg))) 15 x1.toNatClampNeg)) 37 2.toNatClampNeg ((U (U μ 37 0.toNatClampNeg ((μ 22 x1.toNatClampNeg) + (μ 18 x1.toNatClampNeg))) 37 1.toNatClampNeg ((U μ 37 0.toNatClampNeg ((μ 22 x1.toNatClampNeg) + (μ 18 x1.toNatClampNeg))) 15 x1.toNatClampNeg)) 13 x1.toNatClampNeg)) 37 3.toNatClampNeg ((U (U (U μ 37 0.toNatClampNeg ((μ 22 x1.toNatClampNeg) + (μ 18 x1.toNatClampNeg))) 37 1.toNatClampNeg ((U μ 37 0.toNatClampNeg ((μ 22 x1.toNatClampNeg) + (μ 18 x1.toNatClampNeg))) 15 x1.toNatClampNeg)) 37 2.toNatClampNeg ((U (U μ 37 0.toNatClampNeg ((μ 22 x1.toNatClampNeg) + (μ 18 x1.toNatClampNeg))) 37 1.toNatClampNeg ((U μ 37 0.toNatClampNeg ((μ 22 x1.toNatClampNeg) + (μ 18 x1.toNatClampNeg))) 15 x1.toNatClampNeg)) 13 x1.toNatClampNeg)) 14 x1.toNatClampNeg)) 37 4.toNatClampNeg ((U (U (U (U μ 37 0.toNatClampNeg ((μ 22 x1.toNatClampNeg) + (μ 18 x1.toNatClampNeg))) 37 1.toNatClampNeg ((U μ 37 0.toNatClampNeg ((μ 22 x1.toNatClampNeg) + (μ 18 x1.toNatClampNeg))) 15 x1.toNatClampNeg)) 37 2.toNatClampNeg ((U (U μ 37 0.toNatClampNeg ((μ 22 x1.toNatClampNeg) + (μ 18 x1.toNatClampNeg))) 37 1.toNatClampNeg ((U μ 37 0.toNatClampNeg ((μ 22 x1.toNatClampNeg) + (μ 18 x1.toNatClampNeg))) 15 x1.toNatClampNeg)) 13 x1.toNatClampNeg)) 37 3.toNatClampNeg ((U (U (U μ 37 0.toNatClampNeg ((μ 22 x1.toNatClampNeg) + (μ 18 x1.toNatClampNeg))) 37 1.toNatClampNeg ((U μ 37 0.toNatClampNeg ((μ 22 x1.toNatClampNeg) + (μ 18 x1.toNatClampNeg))) 15 x1.toNatClampNeg)) 37 2.toNatClampNeg ((U (U μ 37 0.toNatClampNeg ((μ 22 x1.toNatClampNeg) + (μ 18 x1.toNatClampNeg))) 37 1.toNatClampNeg ((U μ 37 0.toNatClampNeg ((μ 22 x1.toNatClampNeg) + (μ 18 x1.toNatClampNeg))) 15 x1.toNatClampNeg)) 13 x1.toNatClampNeg)) 14 x1.toNatClampNeg)) 25 x1.toNatClampNeg)) 37 5.toNatClampNeg ((U (U (U (U (U μ 37 0.toNatClampNeg ((μ 22 x1.toNatClampNeg) + (μ 18 x1.toNatClampNeg))) 37 1.toNatClampNeg ((U μ 37 0.toNatClampNeg ((μ 22 x1.toNatClampNeg) + (μ 18 x1.toNatClampNeg))) 15 x1.toNatClampNeg)) 37 2.toNatClampNeg ((U (U μ 37 0.toNatClampNeg ((μ 22 x1.toNatClampNeg) + (μ 18 x1.toNatClampNeg))) 37 1.toNatClampNeg ((U μ 37 0.toNatClampNeg ((μ 22 x1.toNatClampNeg) + (μ 18 x1.toNatClampNeg))) 15 x1.toNatClampNeg)) 13 x1.toNatClampNeg)) 37 3.toNatClampNeg ((U (U (U μ 37 0.toNatClampNeg ((μ 22 x1.toNatClampNeg) + (μ 18 x1.toNatClampNeg))) 37 1.toNatClampNeg ((U μ 37 0.toNatClampNeg ((μ 22 x1.toNatClampNeg) + (μ 18 x1.toNatClampNeg))) 15 x1.toNatClampNeg)) 37 2.toNatClampNeg ((U (U μ 37 0.toNatClampNeg ((μ 22 x1.toNatClampNeg) + (μ 18 x1.toNatClampNeg))) 37 1.toNatClampNeg ((U μ 37 0.toNatClampNeg ((μ 22 x1.toNatClampNeg) + (μ 18 x1.toNatClampNeg))) 15 x1.toNatClampNeg)) 13 x1.toNatClampNeg)) 14 x1.toNatClampNeg)) 37 4.toNatClampNeg ((U (U (U (U μ 37 0.toNatClampNeg ((μ 22 x1.toNatClampNeg) + (μ 18 x1.toNatClampNeg))) 37 1.toNatClampNeg ((U μ 37 0.toNatClampNeg ((μ 22 x1.toNatClampNeg) + (μ 18 x1.toNatClampNeg))) 15 x1.toNatClampNeg)) 37 2.toNatClampNeg ((U (U μ 37 0.toNatClampNeg ((μ 22 x1.toNatClampNeg) + (μ 18 x1.toNatClampNeg))) 37 1.toNatClampNeg ((U μ 37 0.toNatClampNeg ((μ 22 x1.toNatClampNeg) + (μ 18 x1.toNatClampNeg))) 15 x1.toNatClampNeg)) 13 x1.toNatClampNeg)) 37 3.toNatClampNeg ((U (U (U μ 37 0.toNatClampNeg ((μ 22 x1.toNatClampNeg) + (μ 18 x1.toNatClampNeg))) 37 1.toNatClampNeg ((U μ 37 0.toNatClampNeg ((μ 22 x1.toNatClampNeg) + (μ 18 x1.toNatClampNeg))) 15 x1.toNatClampNeg)) 37 2.toNatClampNeg ((U (U μ 37 0.toNatClampNeg ((μ 22 x1.toNatClampNeg) + (μ 18 x1.toNatClampNeg))) 37 1.toNatClampNeg ((U μ 37 0.toNatClampNeg ((μ 22 x1.toNatClampNeg) + (μ 18 x1.toNatClampNeg))) 15 x1.toNatClampNeg)) 13 x1.toNatClampNeg)) 14 x1.toNatClampNeg)) 25 x1.toNatClampNeg)) 11 x1.toNatClampNeg))) (some (.int r)) (Φ μ') ∧ wpE (xT 187) ev Q (106, [(0, .ref m), (1, .int x1), (2, .int x2)], [.int r], Φ μ')))) : wpE (xT 187) ev Q (15, [(0, .ref m), (1, .int x1), (2, .int x2)], [.int s0], Φ μ) := by
  refine p_if rfl (fun c => ?_) (fun c => ?_)
  · have h := h.1 c
    refine p_loc (ls' := []) rfl ?_
    refine p_push (v := .long (-4611686018427387904)) rfl ?_
    exact p_rl rfl h
  · have h := h.2 c
    refine p_ald rfl rfl ?_
    refine pm_getp hΦ rfl (c := 37) rfl (by decide) ?_
    refine p_push (v := .int 0) rfl ?_
    refine p_ald rfl rfl ?_
    refine pm_getp hΦ rfl (c := 22) rfl (by decide) ?_
    refine p_ild rfl rfl ?_
    obtain ⟨g, h⟩ := h
    refine pm_aldi hΦ (c := 22) (n := 8) rfl (by decide) rfl rfl g rfl ?_
    refine p_ald rfl rfl ?_
    refine pm_getp hΦ rfl (c := 18) rfl (by decide) ?_
    refine p_ild rfl rfl ?_
    obtain ⟨g, h⟩ := h
    refine pm_aldi hΦ (c := 18) (n := 8) rfl (by decide) rfl rfl g rfl ?_
    refine p_bin rfl ?_
    refine pm_asti hΦ (c := 37) (n := 6) rfl (by decide) rfl rfl (by unfold vp_in; decide) ?_
    refine p_ald rfl rfl ?_
    refine pm_getp hΦ rfl (c := 37) rfl (by decide) ?_
    refine p_push (v := .int 1) rfl ?_
    refine p_ald rfl rfl ?_
    refine pm_getp hΦ rfl (c := 15) rfl (by decide) ?_
    refine p_ild rfl rfl ?_
    obtain ⟨g, h⟩ := h
    refine pm_aldi hΦ (c := 15) (n := 8) rfl (by decide) rfl rfl g rfl ?_
    refine pm_asti hΦ (c := 37) (n := 6) rfl (by decide) rfl rfl (by unfold vp_in; decide) ?_
    refine p_ald rfl rfl ?_
    refine pm_getp hΦ rfl (c := 37) rfl (by decide) ?_
    refine p_push (v := .int 2) rfl ?_
    refine p_ald rfl rfl ?_
    refine pm_getp hΦ rfl (c := 13) rfl (by decide) ?_
    refine p_ild rfl rfl ?_
    obtain ⟨g, h⟩ := h
    refine pm_aldi hΦ (c := 13) (n := 8) rfl (by decide) rfl rfl g rfl ?_
    refine pm_asti hΦ (c := 37) (n := 6) rfl (by decide) rfl rfl (by unfold vp_in; decide) ?_
    refine p_ald rfl rfl ?_
    refine pm_getp hΦ rfl (c := 37) rfl (by decide) ?_
    refine p_push (v := .int 3) rfl ?_
    refine p_ald rfl rfl ?_
    refine pm_getp hΦ rfl (c := 14) rfl (by decide) ?_
    refine p_ild rfl rfl ?_
    obtain ⟨g, h⟩ := h
    refine pm_aldi hΦ (c := 14) (n := 8) rfl (by decide) rfl rfl g rfl ?_
    refine pm_asti hΦ (c := 37) (n := 6) rfl (by decide) rfl rfl (by unfold vp_in; decide) ?_
    refine p_ald rfl rfl ?_
    refine pm_getp hΦ rfl (c := 37) rfl (by decide) ?_
    refine p_push (v := .int 4) rfl ?_
    refine p_ald rfl rfl ?_
    refine pm_getp hΦ rfl (c := 25) rfl (by decide) ?_
    refine p_ild rfl rfl ?_
    obtain ⟨g, h⟩ := h
    refine pm_aldi hΦ (c := 25) (n := 8) rfl (by decide) rfl rfl g rfl ?_
    refine pm_asti hΦ (c := 37) (n := 6) rfl (by decide) rfl rfl (by unfold vp_in; decide) ?_
    refine p_ald rfl rfl ?_
    refine pm_getp hΦ rfl (c := 37) rfl (by decide) ?_
    refine p_push (v := .int 5) rfl ?_
    refine p_ald rfl rfl ?_
    refine pm_getp hΦ rfl (c := 11) rfl (by decide) ?_
    refine p_ild rfl rfl ?_
    obtain ⟨g, h⟩ := h
    refine pm_aldi hΦ (c := 11) (n := 8) rfl (by decide) rfl rfl g rfl ?_
    refine pm_asti hΦ (c := 37) (n := 6) rfl (by decide) rfl rfl (by unfold vp_in; decide) ?_
    refine p_ald rfl rfl ?_
    refine p_ild rfl rfl ?_
    obtain ⟨r, μ', he, h⟩ := h
    exact p_callV rfl (Nat.le_of_ble_eq_true rfl) rfl rfl (Nat.le_of_ble_eq_true rfl) (ml_kd hΦ) he h
theorem B187_106 {ev : xV} {Q : Option Value → xM → Prop} {m : Nat} {Φ : (Nat → Nat → Int32) → xM} (hΦ : MLaw m Φ) {μ : Nat → Nat → Int32} {x1 x2 s0 : Int32} (h : Q (some (.long s0.toInt64)) (Φ μ)) : wpE (xT 187) ev Q (106, [(0, .ref m), (1, .int x1), (2, .int x2)], [.int s0], Φ μ) := by
  refine p_i2l rfl ?_
  exact p_rl rfl h
theorem B188_0 {ev : xV} {Q : Option Value → xM → Prop} {m : Nat} {Φ : (Nat → Nat → Int32) → xM} (hΦ : MLaw m Φ) {μ : Nat → Nat → Int32} {x1 : Int32} (h : wpE (xT 188) ev Q (14, [(0, .ref m), (2, .int ((2 * (μ 0 43)) + x1)), (3, .int 0), (4, .int 0)], [], Φ μ)) : wpE (xT 188) ev Q (0, [(0, .ref m), (1, .int x1)], [], Φ μ) := by
  refine p_push (v := .int 2) rfl ?_
  refine p_ald rfl rfl ?_
  refine pm_geti hΦ (v := μ 0 43) rfl rfl ?_
  refine p_bin rfl ?_
  refine p_ild rfl rfl ?_
  refine p_bin rfl ?_
  refine p_ist (ls' := [(2, .int ((2 * (μ 0 43)) + x1)), (0, .ref m), (1, .int x1)]) rfl (by decide) rfl ?_
  refine p_push (v := .int 0) rfl ?_
  refine p_ist (ls' := [(3, .int 0), (2, .int ((2 * (μ 0 43)) + x1)), (0, .ref m), (1, .int x1)]) rfl (by decide) rfl ?_
  refine p_push (v := .int 0) rfl ?_
  refine p_ist (ls' := [(4, .int 0), (3, .int 0), (2, .int ((2 * (μ 0 43)) + x1)), (0, .ref m), (1, .int x1)]) rfl (by decide) rfl ?_
  exact p_loc (ls' := [(0, .ref m), (2, .int ((2 * (μ 0 43)) + x1)), (3, .int 0), (4, .int 0)]) rfl h
theorem B188_14 {ev : xV} {Q : Option Value → xM → Prop} {m : Nat} {Φ : (Nat → Nat → Int32) → xM} (hΦ : MLaw m Φ) {μ : Nat → Nat → Int32} {x2 x3 x4 : Int32} (h : vp_in x2 12 ∧ (((μ 33 x2.toNatClampNeg) ≤ x4) → Q (some (.int (μ 38 0.toNatClampNeg))) (Φ μ)) ∧ (¬ ((μ 33 x2.toNatClampNeg) ≤ x4) → vp_in ((160 * x2) + x4) 1920 ∧ (((μ 34 ((160 * x2) + x4).toNatClampNeg) < 0) → (((μ 34 ((160 * x2) + x4).toNatClampNeg) = (-3)) → wpE (xT 188) ev Q (95, [(0, .ref m), (2, .int x2), (3, .int x3), (4, .int x4), (5, .int (μ 34 ((160 * x2) + x4).toNatClampNeg))], [], Φ μ)) ∧ (¬ ((μ 34 ((160 * x2) + x4).toNatClampNeg) = (-3)) → (((μ 34 ((160 * x2) + x4).toNatClampNeg) = (-9)) → wpE (xT 188) ev Q (95, [(0, .ref m), (2, .int x2), (3, .int x3), (4, .int x4), (5, .int (μ 34 ((160 * x2) + x4).toNatClampNeg))], [], Φ μ)) ∧ (¬ ((μ 34 ((160 * x2) + x4).toNatClampNeg) = (-9)) → vp_in ((x3 + (-1)) - 1) 161 ∧ vp_in (x3 + (-1)) 161 ∧ (∃ r μ', ev 189 [.ref m, .int (μ 34 ((160 * x2) + x4).toNatClampNeg), .int (μ 38 ((x3 + (-1)) - 1).toNatClampNeg), .int (μ 38 (x3 + (-1)).toNatClampNeg)] (Φ μ) (some (.int r)) (Φ μ') ∧ wpE (xT 188) ev Q (171, [(3, .int (x3 + (-1))), (5, .int (μ 34 ((160 * x2) + x4).toNatClampNeg)), (0, .ref m), (2, .int x2), (4, .int x4)], [.int r, .int ((x3 + (-1)) - 1), .ref (m + 38)], Φ μ'))))) ∧ (¬ ((μ 34 ((160 * x2) + x4).toNatClampNeg) < 0) → ((10000 ≤ (μ 34 ((160 * x2) + x4).toNatClampNeg)) → vp_in ((μ 34 ((160 * x2) + x4).toNatClampNeg) - 10000) 6 ∧ vp_in x3 161 ∧ wpE (xT 188) ev Q (14, [(0, .ref m), (2, .int x2), (3, .int (x3 + 1)), (4, .int (x4 + 1))], [], Φ (U μ 38 x3.toNatClampNeg (μ 37 ((μ 34 ((160 * x2) + x4).toNatClampNeg) - 10000).toNatClampNeg)))) ∧ (¬ (10000 ≤ (μ 34 ((160 * x2) + x4).toNatClampNeg)) → vp_in x3 161 ∧ wpE (xT 188) ev Q (14, [(0, .ref m), (2, .int x2), (3, .int (x3 + 1)), (4, .int (x4 + 1))], [], Φ (U μ 38 x3.toNatClampNeg (μ 34 ((160 * x2) + x4).toNatClampNeg))))))) : wpE (xT 188) ev Q (14, [(0, .ref m), (2, .int x2), (3, .int x3), (4, .int x4)], [], Φ μ) := by
  refine p_ild rfl rfl ?_
  refine p_ald rfl rfl ?_
  refine pm_getp hΦ rfl (c := 33) rfl (by decide) ?_
  refine p_ild rfl rfl ?_
  obtain ⟨g, h⟩ := h
  refine pm_aldi hΦ (c := 33) (n := 12) rfl (by decide) rfl rfl g rfl ?_
  refine p_icmp rfl (fun c => ?_) (fun c => ?_)
  · have h := h.1 c
    refine p_ald rfl rfl ?_
    refine pm_getp hΦ rfl (c := 38) rfl (by decide) ?_
    refine p_push (v := .int 0) rfl ?_
    refine pm_aldi hΦ (c := 38) (n := 161) rfl (by decide) rfl rfl (by unfold vp_in; decide) rfl ?_
    exact p_ri rfl trivial h
  · have h := h.2 c
    refine p_ald rfl rfl ?_
    refine pm_getp hΦ rfl (c := 34) rfl (by decide) ?_
    refine p_push (v := .int 160) rfl ?_
    refine p_ild rfl rfl ?_
    refine p_bin rfl ?_
    refine p_ild rfl rfl ?_
    refine p_bin rfl ?_
    obtain ⟨g, h⟩ := h
    refine pm_aldi hΦ (c := 34) (n := 1920) rfl (by decide) rfl rfl g rfl ?_
    refine p_ist (ls' := [(5, .int (μ 34 ((160 * x2) + x4).toNatClampNeg)), (0, .ref m), (2, .int x2), (3, .int x3), (4, .int x4)]) rfl (by decide) rfl ?_
    refine p_ild rfl rfl ?_
    refine p_if rfl (fun c => ?_) (fun c => ?_)
    · have h := h.1 c
      refine p_ild rfl rfl ?_
      refine p_push (v := .int (-3)) rfl ?_
      refine p_icmp rfl (fun c => ?_) (fun c => ?_)
      · have h := h.1 c
        exact p_loc (ls' := [(0, .ref m), (2, .int x2), (3, .int x3), (4, .int x4), (5, .int (μ 34 ((160 * x2) + x4).toNatClampNeg))]) rfl h
      · have h := h.2 c
        refine p_ild rfl rfl ?_
        refine p_push (v := .int (-9)) rfl ?_
        refine p_icmp rfl (fun c => ?_) (fun c => ?_)
        · have h := h.1 c
          exact p_loc (ls' := [(0, .ref m), (2, .int x2), (3, .int x3), (4, .int x4), (5, .int (μ 34 ((160 * x2) + x4).toNatClampNeg))]) rfl h
        · have h := h.2 c
          refine p_iinc (y := x3 + (-1)) (ls' := [(3, .int (x3 + (-1))), (5, .int (μ 34 ((160 * x2) + x4).toNatClampNeg)), (0, .ref m), (2, .int x2), (4, .int x4)]) rfl (by decide) rfl rfl rfl ?_
          refine p_ald rfl rfl ?_
          refine pm_getp hΦ rfl (c := 38) rfl (by decide) ?_
          refine p_ild rfl rfl ?_
          refine p_push (v := .int 1) rfl ?_
          refine p_bin rfl ?_
          refine p_ald rfl rfl ?_
          refine p_ild rfl rfl ?_
          refine p_ald rfl rfl ?_
          refine pm_getp hΦ rfl (c := 38) rfl (by decide) ?_
          refine p_ild rfl rfl ?_
          refine p_push (v := .int 1) rfl ?_
          refine p_bin rfl ?_
          obtain ⟨g, h⟩ := h
          refine pm_aldi hΦ (c := 38) (n := 161) rfl (by decide) rfl rfl g rfl ?_
          refine p_ald rfl rfl ?_
          refine pm_getp hΦ rfl (c := 38) rfl (by decide) ?_
          refine p_ild rfl rfl ?_
          obtain ⟨g, h⟩ := h
          refine pm_aldi hΦ (c := 38) (n := 161) rfl (by decide) rfl rfl g rfl ?_
          obtain ⟨r, μ', he, h⟩ := h
          exact p_callV rfl (Nat.le_of_ble_eq_true rfl) rfl rfl (Nat.le_of_ble_eq_true rfl) (ml_kd hΦ) he h
    · have h := h.2 c
      refine p_ald rfl rfl ?_
      refine pm_getp hΦ rfl (c := 38) rfl (by decide) ?_
      refine p_ild rfl rfl ?_
      refine p_ild rfl rfl ?_
      refine p_push (v := .int 10000) rfl ?_
      refine p_icmp rfl (fun c => ?_) (fun c => ?_)
      · have h := h.1 c
        refine p_ald rfl rfl ?_
        refine pm_getp hΦ rfl (c := 37) rfl (by decide) ?_
        refine p_ild rfl rfl ?_
        refine p_push (v := .int 10000) rfl ?_
        refine p_bin rfl ?_
        obtain ⟨g, h⟩ := h
        refine pm_aldi hΦ (c := 37) (n := 6) rfl (by decide) rfl rfl g rfl ?_
        refine p_loc (ls' := [(0, .ref m), (2, .int x2), (3, .int x3), (4, .int x4)]) rfl ?_
        obtain ⟨g, h⟩ := h
        refine pm_asti hΦ (c := 38) (n := 161) rfl (by decide) rfl rfl g ?_
        refine p_iinc (y := x3 + 1) (ls' := [(3, .int (x3 + 1)), (0, .ref m), (2, .int x2), (4, .int x4)]) rfl (by decide) rfl rfl rfl ?_
        refine p_goto rfl ?_
        refine p_loc (ls' := [(0, .ref m), (2, .int x2), (3, .int (x3 + 1)), (4, .int x4)]) rfl ?_
        refine p_iinc (y := x4 + 1) (ls' := [(4, .int (x4 + 1)), (0, .ref m), (2, .int x2), (3, .int (x3 + 1))]) rfl (by decide) rfl rfl rfl ?_
        refine p_goto rfl ?_
        exact p_loc (ls' := [(0, .ref m), (2, .int x2), (3, .int (x3 + 1)), (4, .int (x4 + 1))]) rfl h
      · have h := h.2 c
        refine p_ild rfl rfl ?_
        refine p_goto rfl ?_
        refine p_loc (ls' := [(0, .ref m), (2, .int x2), (3, .int x3), (4, .int x4)]) rfl ?_
        obtain ⟨g, h⟩ := h
        refine pm_asti hΦ (c := 38) (n := 161) rfl (by decide) rfl rfl g ?_
        refine p_iinc (y := x3 + 1) (ls' := [(3, .int (x3 + 1)), (0, .ref m), (2, .int x2), (4, .int x4)]) rfl (by decide) rfl rfl rfl ?_
        refine p_goto rfl ?_
        refine p_loc (ls' := [(0, .ref m), (2, .int x2), (3, .int (x3 + 1)), (4, .int x4)]) rfl ?_
        refine p_iinc (y := x4 + 1) (ls' := [(4, .int (x4 + 1)), (0, .ref m), (2, .int x2), (3, .int (x3 + 1))]) rfl (by decide) rfl rfl rfl ?_
        refine p_goto rfl ?_
        exact p_loc (ls' := [(0, .ref m), (2, .int x2), (3, .int (x3 + 1)), (4, .int (x4 + 1))]) rfl h
theorem B188_95 {ev : xV} {Q : Option Value → xM → Prop} {m : Nat} {Φ : (Nat → Nat → Int32) → xM} (hΦ : MLaw m Φ) {μ : Nat → Nat → Int32} {x2 x3 x4 x5 : Int32} (h : ((x5 = (-9)) → vp_in (x3 - 1) 161 ∧ vp_in (x3 - 1) 161 ∧ wpE (xT 188) ev Q (14, [(0, .ref m), (2, .int x2), (3, .int x3), (4, .int (x4 + 1))], [], Φ (U μ 38 ((x3 - 1).toNatClampNeg) (-(μ 38 (x3 - 1).toNatClampNeg))))) ∧ (¬ (x5 = (-9)) → vp_in (x3 - 1) 161 ∧ (((μ 38 (x3 - 1).toNatClampNeg) = 0) → vp_in (x3 - 1) 161 ∧ wpE (xT 188) ev Q (14, [(0, .ref m), (2, .int x2), (3, .int x3), (4, .int (x4 + 1))], [], Φ (U μ 38 ((x3 - 1).toNatClampNeg) 1))) ∧ (¬ ((μ 38 (x3 - 1).toNatClampNeg) = 0) → vp_in (x3 - 1) 161 ∧ wpE (xT 188) ev Q (14, [(0, .ref m), (2, .int x2), (3, .int x3), (4, .int (x4 + 1))], [], Φ (U μ 38 ((x3 - 1).toNatClampNeg) 0))))) : wpE (xT 188) ev Q (95, [(0, .ref m), (2, .int x2), (3, .int x3), (4, .int x4), (5, .int x5)], [], Φ μ) := by
  refine p_ald rfl rfl ?_
  refine pm_getp hΦ rfl (c := 38) rfl (by decide) ?_
  refine p_ild rfl rfl ?_
  refine p_push (v := .int 1) rfl ?_
  refine p_bin rfl ?_
  refine p_ild rfl rfl ?_
  refine p_push (v := .int (-9)) rfl ?_
  refine p_icmp rfl (fun c => ?_) (fun c => ?_)
  · have h := h.1 c
    refine p_ald rfl rfl ?_
    refine pm_getp hΦ rfl (c := 38) rfl (by decide) ?_
    refine p_ild rfl rfl ?_
    refine p_push (v := .int 1) rfl ?_
    refine p_bin rfl ?_
    obtain ⟨g, h⟩ := h
    refine pm_aldi hΦ (c := 38) (n := 161) rfl (by decide) rfl rfl g rfl ?_
    refine p_un rfl ?_
    refine p_goto rfl ?_
    refine p_loc (ls' := [(0, .ref m), (2, .int x2), (3, .int x3), (4, .int x4)]) rfl ?_
    obtain ⟨g, h⟩ := h
    refine pm_asti hΦ (c := 38) (n := 161) rfl (by decide) rfl rfl g ?_
    refine p_goto rfl ?_
    refine p_iinc (y := x4 + 1) (ls' := [(4, .int (x4 + 1)), (0, .ref m), (2, .int x2), (3, .int x3)]) rfl (by decide) rfl rfl rfl ?_
    refine p_goto rfl ?_
    exact p_loc (ls' := [(0, .ref m), (2, .int x2), (3, .int x3), (4, .int (x4 + 1))]) rfl h
  · have h := h.2 c
    refine p_ald rfl rfl ?_
    refine pm_getp hΦ rfl (c := 38) rfl (by decide) ?_
    refine p_ild rfl rfl ?_
    refine p_push (v := .int 1) rfl ?_
    refine p_bin rfl ?_
    obtain ⟨g, h⟩ := h
    refine pm_aldi hΦ (c := 38) (n := 161) rfl (by decide) rfl rfl g rfl ?_
    refine p_if rfl (fun c => ?_) (fun c => ?_)
    · have h := h.1 c
      refine p_push (v := .int 1) rfl ?_
      refine p_goto rfl ?_
      refine p_loc (ls' := [(0, .ref m), (2, .int x2), (3, .int x3), (4, .int x4)]) rfl ?_
      obtain ⟨g, h⟩ := h
      refine pm_asti hΦ (c := 38) (n := 161) rfl (by decide) rfl rfl g ?_
      refine p_goto rfl ?_
      refine p_iinc (y := x4 + 1) (ls' := [(4, .int (x4 + 1)), (0, .ref m), (2, .int x2), (3, .int x3)]) rfl (by decide) rfl rfl rfl ?_
      refine p_goto rfl ?_
      exact p_loc (ls' := [(0, .ref m), (2, .int x2), (3, .int x3), (4, .int (x4 + 1))]) rfl h
    · have h := h.2 c
      refine p_push (v := .int 0) rfl ?_
      refine p_loc (ls' := [(0, .ref m), (2, .int x2), (3, .int x3), (4, .int x4)]) rfl ?_
      obtain ⟨g, h⟩ := h
      refine pm_asti hΦ (c := 38) (n := 161) rfl (by decide) rfl rfl g ?_
      refine p_goto rfl ?_
      refine p_iinc (y := x4 + 1) (ls' := [(4, .int (x4 + 1)), (0, .ref m), (2, .int x2), (3, .int x3)]) rfl (by decide) rfl rfl rfl ?_
      refine p_goto rfl ?_
      exact p_loc (ls' := [(0, .ref m), (2, .int x2), (3, .int x3), (4, .int (x4 + 1))]) rfl h
theorem B188_171 {ev : xV} {Q : Option Value → xM → Prop} {m : Nat} {Φ : (Nat → Nat → Int32) → xM} (hΦ : MLaw m Φ) {μ : Nat → Nat → Int32} {x3 x5 x2 x4 s0 s1 : Int32} (h : vp_in s1 161 ∧ wpE (xT 188) ev Q (14, [(0, .ref m), (2, .int x2), (3, .int x3), (4, .int (x4 + 1))], [], Φ (U μ 38 s1.toNatClampNeg s0))) : wpE (xT 188) ev Q (171, [(3, .int x3), (5, .int x5), (0, .ref m), (2, .int x2), (4, .int x4)], [.int s0, .int s1, .ref (m + 38)], Φ μ) := by
  obtain ⟨g, h⟩ := h
  refine pm_asti hΦ (c := 38) (n := 161) rfl (by decide) rfl rfl g ?_
  refine p_loc (ls' := [(0, .ref m), (2, .int x2), (3, .int x3), (4, .int x4)]) rfl ?_
  refine p_iinc (y := x4 + 1) (ls' := [(4, .int (x4 + 1)), (0, .ref m), (2, .int x2), (3, .int x3)]) rfl (by decide) rfl rfl rfl ?_
  refine p_goto rfl ?_
  exact p_loc (ls' := [(0, .ref m), (2, .int x2), (3, .int x3), (4, .int (x4 + 1))]) rfl h
theorem B189_0 {ev : xV} {Q : Option Value → xM → Prop} {m : Nat} {Φ : (Nat → Nat → Int32) → xM} (hΦ : MLaw m Φ) {μ : Nat → Nat → Int32} {x1 x2 x3 : Int32} (h : ((x1 = (-7)) → Q (some (.int (x2 - x3))) (Φ μ)) ∧ (¬ (x1 = (-7)) → ((x1 = (-6)) → Q (some (.int (x2 + x3))) (Φ μ)) ∧ (¬ (x1 = (-6)) → ((x1 = (-5)) → ((x2 = x3) → Q (some (.int 1)) (Φ μ)) ∧ (¬ (x2 = x3) → Q (some (.int 0)) (Φ μ))) ∧ (¬ (x1 = (-5)) → ((x1 = (-4)) → ((x3 ≤ x2) → Q (some (.int 0)) (Φ μ)) ∧ (¬ (x3 ≤ x2) → Q (some (.int 1)) (Φ μ))) ∧ (¬ (x1 = (-4)) → ((x1 = (-3)) → Q (some (.int (x2 * x3))) (Φ μ)) ∧ (¬ (x1 = (-3)) → ((x1 = (-2)) → ((x2 = 0) → Q (some (.int 0)) (Φ μ)) ∧ (¬ (x2 = 0) → ((x3 = 0) → Q (some (.int 0)) (Φ μ)) ∧ (¬ (x3 = 0) → Q (some (.int 1)) (Φ μ)))) ∧ (¬ (x1 = (-2)) → ((x1 = (-1)) → ((x2 = 0) → ((x3 = 0) → Q (some (.int 0)) (Φ μ)) ∧ (¬ (x3 = 0) → Q (some (.int 1)) (Φ μ))) ∧ (¬ (x2 = 0) → Q (some (.int 1)) (Φ μ))) ∧ (¬ (x1 = (-1)) → Q (some (.int (x2 * x3))) (Φ μ))))))))) : wpE (xT 189) ev Q (0, [(0, .ref m), (1, .int x1), (2, .int x2), (3, .int x3)], [], Φ μ) := by
  refine p_ild rfl rfl ?_
  refine p_sw rfl ?_
  refine ⟨fun c => ?_, fun c => ?_⟩
  · have h := h.1 c
    refine p_ild rfl rfl ?_
    refine p_ild rfl rfl ?_
    refine p_bin rfl ?_
    exact p_ri rfl trivial h
  · have h := h.2 c
    refine ⟨fun c => ?_, fun c => ?_⟩
    · have h := h.1 c
      refine p_ild rfl rfl ?_
      refine p_ild rfl rfl ?_
      refine p_bin rfl ?_
      exact p_ri rfl trivial h
    · have h := h.2 c
      refine ⟨fun c => ?_, fun c => ?_⟩
      · have h := h.1 c
        refine p_ild rfl rfl ?_
        refine p_ild rfl rfl ?_
        refine p_icmp rfl (fun c => ?_) (fun c => ?_)
        · have h := h.1 c
          refine p_push (v := .int 1) rfl ?_
          refine p_goto rfl ?_
          refine p_loc (ls' := []) rfl ?_
          exact p_ri rfl trivial h
        · have h := h.2 c
          refine p_push (v := .int 0) rfl ?_
          refine p_loc (ls' := []) rfl ?_
          exact p_ri rfl trivial h
      · have h := h.2 c
        refine ⟨fun c => ?_, fun c => ?_⟩
        · have h := h.1 c
          refine p_ild rfl rfl ?_
          refine p_ild rfl rfl ?_
          refine p_icmp rfl (fun c => ?_) (fun c => ?_)
          · have h := h.1 c
            refine p_push (v := .int 0) rfl ?_
            refine p_loc (ls' := []) rfl ?_
            exact p_ri rfl trivial h
          · have h := h.2 c
            refine p_push (v := .int 1) rfl ?_
            refine p_goto rfl ?_
            refine p_loc (ls' := []) rfl ?_
            exact p_ri rfl trivial h
        · have h := h.2 c
          refine ⟨fun c => ?_, fun c => ?_⟩
          · have h := h.1 c
            refine p_ild rfl rfl ?_
            refine p_ild rfl rfl ?_
            refine p_bin rfl ?_
            exact p_ri rfl trivial h
          · have h := h.2 c
            refine ⟨fun c => ?_, fun c => ?_⟩
            · have h := h.1 c
              refine p_ild rfl rfl ?_
              refine p_if rfl (fun c => ?_) (fun c => ?_)
              · have h := h.1 c
                refine p_loc (ls' := []) rfl ?_
                refine p_push (v := .int 0) rfl ?_
                exact p_ri rfl trivial h
              · have h := h.2 c
                refine p_ild rfl rfl ?_
                refine p_if rfl (fun c => ?_) (fun c => ?_)
                · have h := h.1 c
                  refine p_loc (ls' := []) rfl ?_
                  refine p_push (v := .int 0) rfl ?_
                  exact p_ri rfl trivial h
                · have h := h.2 c
                  refine p_push (v := .int 1) rfl ?_
                  refine p_goto rfl ?_
                  refine p_loc (ls' := []) rfl ?_
                  exact p_ri rfl trivial h
            · have h := h.2 c
              refine ⟨fun c => ?_, fun c => ?_⟩
              · have h := h.1 c
                refine p_ild rfl rfl ?_
                refine p_if rfl (fun c => ?_) (fun c => ?_)
                · have h := h.1 c
                  refine p_ild rfl rfl ?_
                  refine p_if rfl (fun c => ?_) (fun c => ?_)
                  · have h := h.1 c
                    refine p_push (v := .int 0) rfl ?_
                    refine p_loc (ls' := []) rfl ?_
                    exact p_ri rfl trivial h
                  · have h := h.2 c
                    refine p_loc (ls' := []) rfl ?_
                    refine p_push (v := .int 1) rfl ?_
                    refine p_goto rfl ?_
                    exact p_ri rfl trivial h
                · have h := h.2 c
                  refine p_loc (ls' := []) rfl ?_
                  refine p_push (v := .int 1) rfl ?_
                  refine p_goto rfl ?_
                  exact p_ri rfl trivial h
              · have h := h.2 c
                refine p_ild rfl rfl ?_
                refine p_ild rfl rfl ?_
                refine p_bin rfl ?_
                exact p_ri rfl trivial h
theorem B190_0 {ev : xV} {Q : Option Value → xM → Prop} {m : Nat} {Φ : (Nat → Nat → Int32) → xM} (hΦ : MLaw m Φ) {μ : Nat → Nat → Int32} {x1 : Int32} (h : (∃ r μ', ev 147 [.ref m, .int x1] (Φ μ) (some (.int r)) (Φ μ') ∧ wpE (xT 190) ev Q (5, [(0, .ref m), (1, .int x1)], [.int r], Φ μ'))) : wpE (xT 190) ev Q (0, [(0, .ref m), (1, .int x1)], [], Φ μ) := by
  refine p_ald rfl rfl ?_
  refine p_ild rfl rfl ?_
  obtain ⟨r, μ', he, h⟩ := h
  exact p_callV rfl (Nat.le_of_ble_eq_true rfl) rfl rfl (Nat.le_of_ble_eq_true rfl) (ml_kd hΦ) he h
theorem B190_5 {ev : xV} {Q : Option Value → xM → Prop} {m : Nat} {Φ : (Nat → Nat → Int32) → xM} (hΦ : MLaw m Φ) {μ : Nat → Nat → Int32} {x1 s0 : Int32} (h : ((s0 = 0) → Q (some (.int ((-2)))) (Φ μ)) ∧ (¬ (s0 = 0) → (((μ 0 2) = 0) → Q (some (.int ((-3)))) (Φ μ)) ∧ (¬ ((μ 0 2) = 0) → (∃ r μ', ev 149 [.ref m, .int x1, .int 0] (Φ μ) (some (.int r)) (Φ μ') ∧ wpE (xT 190) ev Q (24, [(0, .ref m), (1, .int x1)], [.int r], Φ μ'))))) : wpE (xT 190) ev Q (5, [(0, .ref m), (1, .int x1)], [.int s0], Φ μ) := by
  refine p_if rfl (fun c => ?_) (fun c => ?_)
  · have h := h.1 c
    refine p_push (v := .int (-2)) rfl ?_
    exact p_ri rfl trivial h
  · have h := h.2 c
    refine p_ald rfl rfl ?_
    refine pm_geti hΦ (v := μ 0 2) rfl rfl ?_
    refine p_if rfl (fun c => ?_) (fun c => ?_)
    · have h := h.1 c
      refine p_loc (ls' := []) rfl ?_
      refine p_push (v := .int (-3)) rfl ?_
      exact p_ri rfl trivial h
    · have h := h.2 c
      refine p_ald rfl rfl ?_
      refine p_ild rfl rfl ?_
      refine p_push (v := .int 0) rfl ?_
      obtain ⟨r, μ', he, h⟩ := h
      exact p_callV rfl (Nat.le_of_ble_eq_true rfl) rfl rfl (Nat.le_of_ble_eq_true rfl) (ml_kd hΦ) he h
theorem B190_24 {ev : xV} {Q : Option Value → xM → Prop} {m : Nat} {Φ : (Nat → Nat → Int32) → xM} (hΦ : MLaw m Φ) {μ : Nat → Nat → Int32} {x1 s0 : Int32} (h : ((s0 = 0) → Q (some (.int ((-3)))) (Φ μ)) ∧ (¬ (s0 = 0) → (∃ r μ', ev 191 [.ref m, .int x1] (Φ μ) (some (.int r)) (Φ μ') ∧ wpE (xT 190) ev Q (35, [(0, .ref m), (1, .int x1)], [.int r], Φ μ')))) : wpE (xT 190) ev Q (24, [(0, .ref m), (1, .int x1)], [.int s0], Φ μ) := by
  refine p_if rfl (fun c => ?_) (fun c => ?_)
  · have h := h.1 c
    refine p_loc (ls' := []) rfl ?_
    refine p_push (v := .int (-3)) rfl ?_
    exact p_ri rfl trivial h
  · have h := h.2 c
    refine p_ald rfl rfl ?_
    refine p_ild rfl rfl ?_
    obtain ⟨r, μ', he, h⟩ := h
    exact p_callV rfl (Nat.le_of_ble_eq_true rfl) rfl rfl (Nat.le_of_ble_eq_true rfl) (ml_kd hΦ) he h
theorem B190_35 {ev : xV} {Q : Option Value → xM → Prop} {m : Nat} {Φ : (Nat → Nat → Int32) → xM} (hΦ : MLaw m Φ) {μ : Nat → Nat → Int32} {x1 s0 : Int32} (h : ((s0 = 1000000) → Q (some (.int ((-1)))) (Φ μ)) ∧ (¬ (s0 = 1000000) → Q (some (.int s0)) (Φ μ))) : wpE (xT 190) ev Q (35, [(0, .ref m), (1, .int x1)], [.int s0], Φ μ) := by
  refine p_ist (ls' := [(2, .int s0), (0, .ref m), (1, .int x1)]) rfl (by decide) rfl ?_
  refine p_ild rfl rfl ?_
  refine p_push (v := .int 1000000) rfl ?_
  refine p_icmp rfl (fun c => ?_) (fun c => ?_)
  · have h := h.1 c
    refine p_push (v := .int (-1)) rfl ?_
    refine p_goto rfl ?_
    refine p_loc (ls' := []) rfl ?_
    exact p_ri rfl trivial h
  · have h := h.2 c
    refine p_ild rfl rfl ?_
    refine p_loc (ls' := []) rfl ?_
    exact p_ri rfl trivial h
theorem B191_0 {ev : xV} {Q : Option Value → xM → Prop} {m : Nat} {Φ : (Nat → Nat → Int32) → xM} (hΦ : MLaw m Φ) {μ : Nat → Nat → Int32} {x1 : Int32} (h : (∃ r μ', ev 149 [.ref m, .int x1, .int 0] (Φ μ) (some (.int r)) (Φ μ') ∧ wpE (xT 191) ev Q (6, [(0, .ref m), (1, .int x1)], [.int r], Φ μ'))) : wpE (xT 191) ev Q (0, [(0, .ref m), (1, .int x1)], [], Φ μ) := by
  refine p_ald rfl rfl ?_
  refine p_ild rfl rfl ?_
  refine p_push (v := .int 0) rfl ?_
  obtain ⟨r, μ', he, h⟩ := h
  exact p_callV rfl (Nat.le_of_ble_eq_true rfl) rfl rfl (Nat.le_of_ble_eq_true rfl) (ml_kd hΦ) he h
theorem B191_6 {ev : xV} {Q : Option Value → xM → Prop} {m : Nat} {Φ : (Nat → Nat → Int32) → xM} (hΦ : MLaw m Φ) {μ : Nat → Nat → Int32} {x1 s0 : Int32} (h : ((s0 = 0) → Q (some (.int 1000000)) (Φ μ)) ∧ (¬ (s0 = 0) → (∃ r μ', ev 151 [.ref m, .int x1, .int 4, .int 0] (Φ (U (U μ 8 4.toNatClampNeg 9999) 9 4.toNatClampNeg 0)) (some (.int r)) (Φ μ') ∧ wpE (xT 191) ev Q (35, [(0, .ref m), (1, .int x1)], [.int r], Φ μ')))) : wpE (xT 191) ev Q (6, [(0, .ref m), (1, .int x1)], [.int s0], Φ μ) := by
  refine p_if rfl (fun c => ?_) (fun c => ?_)
  · have h := h.1 c
    refine p_push (v := .int 1000000) rfl ?_
    exact p_ri rfl trivial h
  · have h := h.2 c
    refine p_ald rfl rfl ?_
    refine pm_getp hΦ rfl (c := 8) rfl (by decide) ?_
    refine p_push (v := .int 4) rfl ?_
    refine p_push (v := .int 9999) rfl ?_
    refine pm_asti hΦ (c := 8) (n := 5) rfl (by decide) rfl rfl (by unfold vp_in; decide) ?_
    refine p_ald rfl rfl ?_
    refine pm_getp hΦ rfl (c := 9) rfl (by decide) ?_
    refine p_push (v := .int 4) rfl ?_
    refine p_push (v := .int 0) rfl ?_
    refine pm_asti hΦ (c := 9) (n := 5) rfl (by decide) rfl rfl (by unfold vp_in; decide) ?_
    refine p_ald rfl rfl ?_
    refine p_ild rfl rfl ?_
    refine p_push (v := .int 4) rfl ?_
    refine p_push (v := .int 0) rfl ?_
    obtain ⟨r, μ', he, h⟩ := h
    exact p_callV rfl (Nat.le_of_ble_eq_true rfl) rfl rfl (Nat.le_of_ble_eq_true rfl) (ml_kd hΦ) he h
theorem B191_35 {ev : xV} {Q : Option Value → xM → Prop} {m : Nat} {Φ : (Nat → Nat → Int32) → xM} (hΦ : MLaw m Φ) {μ : Nat → Nat → Int32} {x1 s0 : Int32} (h : Q (some (.int s0)) (Φ μ)) : wpE (xT 191) ev Q (35, [(0, .ref m), (1, .int x1)], [.int s0], Φ μ) := by
  exact p_ri rfl trivial h
theorem B192_0 {ev : xV} {Q : Option Value → xM → Prop} {m : Nat} {Φ : (Nat → Nat → Int32) → xM} (hΦ : MLaw m Φ) {μ : Nat → Nat → Int32} {x1 : Int32} (h : (∃ r μ', ev 129 [.ref m, .int x1, .int 0, .int ((1 <<< ((μ 0 13) &&& 31)) - 1)] (Φ μ) (some (.int r)) (Φ μ') ∧ wpE (xT 192) ev Q (14, [(0, .ref m), (1, .int x1)], [.int r], Φ μ'))) : wpE (xT 192) ev Q (0, [(0, .ref m), (1, .int x1)], [], Φ μ) := by
  refine p_ald rfl rfl ?_
  refine p_ild rfl rfl ?_
  refine p_push (v := .int 0) rfl ?_
  refine p_push (v := .int 1) rfl ?_
  refine p_ald rfl rfl ?_
  refine pm_geti hΦ (v := μ 0 13) rfl rfl ?_
  refine p_bin rfl ?_
  refine p_push (v := .int 1) rfl ?_
  refine p_bin rfl ?_
  obtain ⟨r, μ', he, h⟩ := h
  exact p_callV rfl (Nat.le_of_ble_eq_true rfl) rfl rfl (Nat.le_of_ble_eq_true rfl) (ml_kd hΦ) he h
theorem B192_14 {ev : xV} {Q : Option Value → xM → Prop} {m : Nat} {Φ : (Nat → Nat → Int32) → xM} (hΦ : MLaw m Φ) {μ : Nat → Nat → Int32} {x1 s0 : Int32} (h : ((s0 = 0) → Q (some (.int ((-2)))) (Φ μ)) ∧ (¬ (s0 = 0) → (((μ 0 2) = 0) → Q (some (.int ((-3)))) (Φ μ)) ∧ (¬ ((μ 0 2) = 0) → wpE (xT 192) ev Q (34, [(0, .ref m), (1, .int x1), (2, .int 1), (3, .int 0)], [], Φ μ)))) : wpE (xT 192) ev Q (14, [(0, .ref m), (1, .int x1)], [.int s0], Φ μ) := by
  refine p_if rfl (fun c => ?_) (fun c => ?_)
  · have h := h.1 c
    refine p_push (v := .int (-2)) rfl ?_
    exact p_ri rfl trivial h
  · have h := h.2 c
    refine p_ald rfl rfl ?_
    refine pm_geti hΦ (v := μ 0 2) rfl rfl ?_
    refine p_if rfl (fun c => ?_) (fun c => ?_)
    · have h := h.1 c
      refine p_push (v := .int (-3)) rfl ?_
      exact p_ri rfl trivial h
    · have h := h.2 c
      refine p_push (v := .int 1) rfl ?_
      refine p_ist (ls' := [(2, .int 1), (0, .ref m), (1, .int x1)]) rfl (by decide) rfl ?_
      refine p_push (v := .int 0) rfl ?_
      refine p_ist (ls' := [(3, .int 0), (2, .int 1), (0, .ref m), (1, .int x1)]) rfl (by decide) rfl ?_
      exact p_loc (ls' := [(0, .ref m), (1, .int x1), (2, .int 1), (3, .int 0)]) rfl h
theorem B192_34 {ev : xV} {Q : Option Value → xM → Prop} {m : Nat} {Φ : (Nat → Nat → Int32) → xM} (hΦ : MLaw m Φ) {μ : Nat → Nat → Int32} {x1 x2 x3 : Int32} (h : (((μ 0 13) ≤ x3) → wpE (xT 192) ev Q (85, [(0, .ref m), (1, .int x1), (2, .int x2), (3, .int ((-1))), (4, .int 0), (5, .int 0)], [], Φ μ)) ∧ (¬ ((μ 0 13) ≤ x3) → ((((x1 >>> (x3 &&& 31)) &&& 1) = 1) → (∃ r μ', ev 191 [.ref m, .int x3] (Φ μ) (some (.int r)) (Φ μ') ∧ wpE (xT 192) ev Q (61, [(0, .ref m), (1, .int x1), (2, .int x2), (3, .int x3)], [.int r, .int x3, .ref (m + 39)], Φ μ'))) ∧ (¬ (((x1 >>> (x3 &&& 31)) &&& 1) = 1) → vp_in x3 8 ∧ wpE (xT 192) ev Q (34, [(0, .ref m), (1, .int x1), (2, .int (x2 * 5)), (3, .int (x3 + 1))], [], Φ (U μ 39 x3.toNatClampNeg 1000000))))) : wpE (xT 192) ev Q (34, [(0, .ref m), (1, .int x1), (2, .int x2), (3, .int x3)], [], Φ μ) := by
  refine p_ild rfl rfl ?_
  refine p_ald rfl rfl ?_
  refine pm_geti hΦ (v := μ 0 13) rfl rfl ?_
  refine p_icmp rfl (fun c => ?_) (fun c => ?_)
  · have h := h.1 c
    refine p_push (v := .int (-1)) rfl ?_
    refine p_ist (ls' := [(3, .int ((-1))), (0, .ref m), (1, .int x1), (2, .int x2)]) rfl (by decide) rfl ?_
    refine p_push (v := .int 0) rfl ?_
    refine p_ist (ls' := [(4, .int 0), (3, .int ((-1))), (0, .ref m), (1, .int x1), (2, .int x2)]) rfl (by decide) rfl ?_
    refine p_push (v := .int 0) rfl ?_
    refine p_ist (ls' := [(5, .int 0), (4, .int 0), (3, .int ((-1))), (0, .ref m), (1, .int x1), (2, .int x2)]) rfl (by decide) rfl ?_
    exact p_loc (ls' := [(0, .ref m), (1, .int x1), (2, .int x2), (3, .int ((-1))), (4, .int 0), (5, .int 0)]) rfl h
  · have h := h.2 c
    refine p_ald rfl rfl ?_
    refine pm_getp hΦ rfl (c := 39) rfl (by decide) ?_
    refine p_ild rfl rfl ?_
    refine p_ild rfl rfl ?_
    refine p_ild rfl rfl ?_
    refine p_bin rfl ?_
    refine p_push (v := .int 1) rfl ?_
    refine p_bin rfl ?_
    refine p_push (v := .int 1) rfl ?_
    refine p_icmp rfl (fun c => ?_) (fun c => ?_)
    · have h := h.1 c
      refine p_ald rfl rfl ?_
      refine p_ild rfl rfl ?_
      obtain ⟨r, μ', he, h⟩ := h
      exact p_callV rfl (Nat.le_of_ble_eq_true rfl) rfl rfl (Nat.le_of_ble_eq_true rfl) (ml_kd hΦ) he h
    · have h := h.2 c
      refine p_push (v := .int 1000000) rfl ?_
      obtain ⟨g, h⟩ := h
      refine pm_asti hΦ (c := 39) (n := 8) rfl (by decide) rfl rfl g ?_
      refine p_ild rfl rfl ?_
      refine p_push (v := .int 5) rfl ?_
      refine p_bin rfl ?_
      refine p_ist (ls' := [(2, .int (x2 * 5)), (0, .ref m), (1, .int x1), (3, .int x3)]) rfl (by decide) rfl ?_
      refine p_iinc (y := x3 + 1) (ls' := [(3, .int (x3 + 1)), (2, .int (x2 * 5)), (0, .ref m), (1, .int x1)]) rfl (by decide) rfl rfl rfl ?_
      refine p_goto rfl ?_
      exact p_loc (ls' := [(0, .ref m), (1, .int x1), (2, .int (x2 * 5)), (3, .int (x3 + 1))]) rfl h
theorem B192_61 {ev : xV} {Q : Option Value → xM → Prop} {m : Nat} {Φ : (Nat → Nat → Int32) → xM} (hΦ : MLaw m Φ) {μ : Nat → Nat → Int32} {x1 x2 x3 s0 s1 : Int32} (h : vp_in s1 8 ∧ wpE (xT 192) ev Q (34, [(0, .ref m), (1, .int x1), (2, .int (x2 * 5)), (3, .int (x3 + 1))], [], Φ (U μ 39 s1.toNatClampNeg s0))) : wpE (xT 192) ev Q (61, [(0, .ref m), (1, .int x1), (2, .int x2), (3, .int x3)], [.int s0, .int s1, .ref (m + 39)], Φ μ) := by
  refine p_goto rfl ?_
  obtain ⟨g, h⟩ := h
  refine pm_asti hΦ (c := 39) (n := 8) rfl (by decide) rfl rfl g ?_
  refine p_ild rfl rfl ?_
  refine p_push (v := .int 5) rfl ?_
  refine p_bin rfl ?_
  refine p_ist (ls' := [(2, .int (x2 * 5)), (0, .ref m), (1, .int x1), (3, .int x3)]) rfl (by decide) rfl ?_
  refine p_iinc (y := x3 + 1) (ls' := [(3, .int (x3 + 1)), (2, .int (x2 * 5)), (0, .ref m), (1, .int x1)]) rfl (by decide) rfl rfl rfl ?_
  refine p_goto rfl ?_
  exact p_loc (ls' := [(0, .ref m), (1, .int x1), (2, .int (x2 * 5)), (3, .int (x3 + 1))]) rfl h
theorem B192_85 {ev : xV} {Q : Option Value → xM → Prop} {m : Nat} {Φ : (Nat → Nat → Int32) → xM} (hΦ : MLaw m Φ) {μ : Nat → Nat → Int32} {x1 x2 x3 x4 x5 : Int32} (h : ((x2 ≤ x5) → Q (some (.int x3)) (Φ μ)) ∧ (¬ (x2 ≤ x5) → (∃ r μ', ev 193 [.ref m, .int x5, .int x1] (Φ μ) (some (.int r)) (Φ μ') ∧ wpE (xT 192) ev Q (98, [(0, .ref m), (1, .int x1), (2, .int x2), (3, .int x3), (4, .int x4), (5, .int x5)], [.int r], Φ μ')))) : wpE (xT 192) ev Q (85, [(0, .ref m), (1, .int x1), (2, .int x2), (3, .int x3), (4, .int x4), (5, .int x5)], [], Φ μ) := by
  refine p_ild rfl rfl ?_
  refine p_ild rfl rfl ?_
  refine p_icmp rfl (fun c => ?_) (fun c => ?_)
  · have h := h.1 c
    refine p_ild rfl rfl ?_
    exact p_ri rfl trivial h
  · have h := h.2 c
    refine p_ald rfl rfl ?_
    refine p_ild rfl rfl ?_
    refine p_ild rfl rfl ?_
    obtain ⟨r, μ', he, h⟩ := h
    exact p_callV rfl (Nat.le_of_ble_eq_true rfl) rfl rfl (Nat.le_of_ble_eq_true rfl) (ml_kd hΦ) he h
theorem B192_98 {ev : xV} {Q : Option Value → xM → Prop} {m : Nat} {Φ : (Nat → Nat → Int32) → xM} (hΦ : MLaw m Φ) {μ : Nat → Nat → Int32} {x1 x2 x3 x4 x5 s0 : Int32} (h : ((s0 = 0) → wpE (xT 192) ev Q (85, [(0, .ref m), (1, .int x1), (2, .int x2), (3, .int x3), (4, .int x4), (5, .int (x5 + 1))], [], Φ μ)) ∧ (¬ (s0 = 0) → (((μ 0 62) < x3) → wpE (xT 192) ev Q (85, [(0, .ref m), (1, .int x1), (2, .int x2), (3, .int x3), (4, .int x4), (5, .int (x5 + 1))], [], Φ μ)) ∧ (¬ ((μ 0 62) < x3) → (((μ 0 62) = x3) → (((μ 0 63) < x4) → wpE (xT 192) ev Q (143, [(0, .ref m), (1, .int x1), (2, .int x2), (3, .int (μ 0 62)), (4, .int (μ 0 63)), (5, .int x5), (6, .int 0)], [], Φ μ)) ∧ (¬ ((μ 0 63) < x4) → wpE (xT 192) ev Q (85, [(0, .ref m), (1, .int x1), (2, .int x2), (3, .int x3), (4, .int x4), (5, .int (x5 + 1))], [], Φ μ))) ∧ (¬ ((μ 0 62) = x3) → wpE (xT 192) ev Q (143, [(0, .ref m), (1, .int x1), (2, .int x2), (3, .int (μ 0 62)), (4, .int (μ 0 63)), (5, .int x5), (6, .int 0)], [], Φ μ))))) : wpE (xT 192) ev Q (98, [(0, .ref m), (1, .int x1), (2, .int x2), (3, .int x3), (4, .int x4), (5, .int x5)], [.int s0], Φ μ) := by
  refine p_if rfl (fun c => ?_) (fun c => ?_)
  · have h := h.1 c
    refine p_iinc (y := x5 + 1) (ls' := [(5, .int (x5 + 1)), (0, .ref m), (1, .int x1), (2, .int x2), (3, .int x3), (4, .int x4)]) rfl (by decide) rfl rfl rfl ?_
    refine p_goto rfl ?_
    exact p_loc (ls' := [(0, .ref m), (1, .int x1), (2, .int x2), (3, .int x3), (4, .int x4), (5, .int (x5 + 1))]) rfl h
  · have h := h.2 c
    refine p_ald rfl rfl ?_
    refine pm_geti hΦ (v := μ 0 62) rfl rfl ?_
    refine p_ild rfl rfl ?_
    refine p_icmp rfl (fun c => ?_) (fun c => ?_)
    · have h := h.1 c
      refine p_iinc (y := x5 + 1) (ls' := [(5, .int (x5 + 1)), (0, .ref m), (1, .int x1), (2, .int x2), (3, .int x3), (4, .int x4)]) rfl (by decide) rfl rfl rfl ?_
      refine p_goto rfl ?_
      exact p_loc (ls' := [(0, .ref m), (1, .int x1), (2, .int x2), (3, .int x3), (4, .int x4), (5, .int (x5 + 1))]) rfl h
    · have h := h.2 c
      refine p_ald rfl rfl ?_
      refine pm_geti hΦ (v := μ 0 62) rfl rfl ?_
      refine p_ild rfl rfl ?_
      refine p_icmp rfl (fun c => ?_) (fun c => ?_)
      · have h := h.1 c
        refine p_ald rfl rfl ?_
        refine pm_geti hΦ (v := μ 0 63) rfl rfl ?_
        refine p_ild rfl rfl ?_
        refine p_icmp rfl (fun c => ?_) (fun c => ?_)
        · have h := h.1 c
          refine p_loc (ls' := [(0, .ref m), (1, .int x1), (2, .int x2), (5, .int x5)]) rfl ?_
          refine p_ald rfl rfl ?_
          refine pm_geti hΦ (v := μ 0 62) rfl rfl ?_
          refine p_ist (ls' := [(3, .int (μ 0 62)), (0, .ref m), (1, .int x1), (2, .int x2), (5, .int x5)]) rfl (by decide) rfl ?_
          refine p_ald rfl rfl ?_
          refine pm_geti hΦ (v := μ 0 63) rfl rfl ?_
          refine p_ist (ls' := [(4, .int (μ 0 63)), (3, .int (μ 0 62)), (0, .ref m), (1, .int x1), (2, .int x2), (5, .int x5)]) rfl (by decide) rfl ?_
          refine p_push (v := .int 0) rfl ?_
          refine p_ist (ls' := [(6, .int 0), (4, .int (μ 0 63)), (3, .int (μ 0 62)), (0, .ref m), (1, .int x1), (2, .int x2), (5, .int x5)]) rfl (by decide) rfl ?_
          exact p_loc (ls' := [(0, .ref m), (1, .int x1), (2, .int x2), (3, .int (μ 0 62)), (4, .int (μ 0 63)), (5, .int x5), (6, .int 0)]) rfl h
        · have h := h.2 c
          refine p_goto rfl ?_
          refine p_iinc (y := x5 + 1) (ls' := [(5, .int (x5 + 1)), (0, .ref m), (1, .int x1), (2, .int x2), (3, .int x3), (4, .int x4)]) rfl (by decide) rfl rfl rfl ?_
          refine p_goto rfl ?_
          exact p_loc (ls' := [(0, .ref m), (1, .int x1), (2, .int x2), (3, .int x3), (4, .int x4), (5, .int (x5 + 1))]) rfl h
      · have h := h.2 c
        refine p_loc (ls' := [(0, .ref m), (1, .int x1), (2, .int x2), (5, .int x5)]) rfl ?_
        refine p_ald rfl rfl ?_
        refine pm_geti hΦ (v := μ 0 62) rfl rfl ?_
        refine p_ist (ls' := [(3, .int (μ 0 62)), (0, .ref m), (1, .int x1), (2, .int x2), (5, .int x5)]) rfl (by decide) rfl ?_
        refine p_ald rfl rfl ?_
        refine pm_geti hΦ (v := μ 0 63) rfl rfl ?_
        refine p_ist (ls' := [(4, .int (μ 0 63)), (3, .int (μ 0 62)), (0, .ref m), (1, .int x1), (2, .int x2), (5, .int x5)]) rfl (by decide) rfl ?_
        refine p_push (v := .int 0) rfl ?_
        refine p_ist (ls' := [(6, .int 0), (4, .int (μ 0 63)), (3, .int (μ 0 62)), (0, .ref m), (1, .int x1), (2, .int x2), (5, .int x5)]) rfl (by decide) rfl ?_
        exact p_loc (ls' := [(0, .ref m), (1, .int x1), (2, .int x2), (3, .int (μ 0 62)), (4, .int (μ 0 63)), (5, .int x5), (6, .int 0)]) rfl h
theorem B192_143 {ev : xV} {Q : Option Value → xM → Prop} {m : Nat} {Φ : (Nat → Nat → Int32) → xM} (hΦ : MLaw m Φ) {μ : Nat → Nat → Int32} {x1 x2 x3 x4 x5 x6 : Int32} (h : ((8 ≤ x6) → wpE (xT 192) ev Q (85, [(0, .ref m), (1, .int x1), (2, .int x2), (3, .int x3), (4, .int x4), (5, .int (x5 + 1))], [], Φ μ)) ∧ (¬ (8 ≤ x6) → (((μ 0 13) ≤ x6) → vp_in x6 8 ∧ wpE (xT 192) ev Q (143, [(0, .ref m), (1, .int x1), (2, .int x2), (3, .int x3), (4, .int x4), (5, .int x5), (6, .int (x6 + 1))], [], Φ (U μ 41 x6.toNatClampNeg (-1)))) ∧ (¬ ((μ 0 13) ≤ x6) → vp_in x6 8 ∧ ((4 ≤ (μ 40 x6.toNatClampNeg)) → vp_in x6 8 ∧ wpE (xT 192) ev Q (143, [(0, .ref m), (1, .int x1), (2, .int x2), (3, .int x3), (4, .int x4), (5, .int x5), (6, .int (x6 + 1))], [], Φ (U μ 41 x6.toNatClampNeg (-1)))) ∧ (¬ (4 ≤ (μ 40 x6.toNatClampNeg)) → vp_in x6 8 ∧ vp_in x6 8 ∧ wpE (xT 192) ev Q (143, [(0, .ref m), (1, .int x1), (2, .int x2), (3, .int x3), (4, .int x4), (5, .int x5), (6, .int (x6 + 1))], [], Φ (U μ 41 x6.toNatClampNeg (μ 40 x6.toNatClampNeg))))))) : wpE (xT 192) ev Q (143, [(0, .ref m), (1, .int x1), (2, .int x2), (3, .int x3), (4, .int x4), (5, .int x5), (6, .int x6)], [], Φ μ) := by
  refine p_ild rfl rfl ?_
  refine p_push (v := .int 8) rfl ?_
  refine p_icmp rfl (fun c => ?_) (fun c => ?_)
  · have h := h.1 c
    refine p_loc (ls' := [(0, .ref m), (1, .int x1), (2, .int x2), (3, .int x3), (4, .int x4), (5, .int x5)]) rfl ?_
    refine p_iinc (y := x5 + 1) (ls' := [(5, .int (x5 + 1)), (0, .ref m), (1, .int x1), (2, .int x2), (3, .int x3), (4, .int x4)]) rfl (by decide) rfl rfl rfl ?_
    refine p_goto rfl ?_
    exact p_loc (ls' := [(0, .ref m), (1, .int x1), (2, .int x2), (3, .int x3), (4, .int x4), (5, .int (x5 + 1))]) rfl h
  · have h := h.2 c
    refine p_ald rfl rfl ?_
    refine pm_getp hΦ rfl (c := 41) rfl (by decide) ?_
    refine p_ild rfl rfl ?_
    refine p_ild rfl rfl ?_
    refine p_ald rfl rfl ?_
    refine pm_geti hΦ (v := μ 0 13) rfl rfl ?_
    refine p_icmp rfl (fun c => ?_) (fun c => ?_)
    · have h := h.1 c
      refine p_push (v := .int (-1)) rfl ?_
      obtain ⟨g, h⟩ := h
      refine pm_asti hΦ (c := 41) (n := 8) rfl (by decide) rfl rfl g ?_
      refine p_iinc (y := x6 + 1) (ls' := [(6, .int (x6 + 1)), (0, .ref m), (1, .int x1), (2, .int x2), (3, .int x3), (4, .int x4), (5, .int x5)]) rfl (by decide) rfl rfl rfl ?_
      refine p_goto rfl ?_
      exact p_loc (ls' := [(0, .ref m), (1, .int x1), (2, .int x2), (3, .int x3), (4, .int x4), (5, .int x5), (6, .int (x6 + 1))]) rfl h
    · have h := h.2 c
      refine p_ald rfl rfl ?_
      refine pm_getp hΦ rfl (c := 40) rfl (by decide) ?_
      refine p_ild rfl rfl ?_
      obtain ⟨g, h⟩ := h
      refine pm_aldi hΦ (c := 40) (n := 8) rfl (by decide) rfl rfl g rfl ?_
      refine p_push (v := .int 4) rfl ?_
      refine p_icmp rfl (fun c => ?_) (fun c => ?_)
      · have h := h.1 c
        refine p_push (v := .int (-1)) rfl ?_
        obtain ⟨g, h⟩ := h
        refine pm_asti hΦ (c := 41) (n := 8) rfl (by decide) rfl rfl g ?_
        refine p_iinc (y := x6 + 1) (ls' := [(6, .int (x6 + 1)), (0, .ref m), (1, .int x1), (2, .int x2), (3, .int x3), (4, .int x4), (5, .int x5)]) rfl (by decide) rfl rfl rfl ?_
        refine p_goto rfl ?_
        exact p_loc (ls' := [(0, .ref m), (1, .int x1), (2, .int x2), (3, .int x3), (4, .int x4), (5, .int x5), (6, .int (x6 + 1))]) rfl h
      · have h := h.2 c
        refine p_ald rfl rfl ?_
        refine pm_getp hΦ rfl (c := 40) rfl (by decide) ?_
        refine p_ild rfl rfl ?_
        obtain ⟨g, h⟩ := h
        refine pm_aldi hΦ (c := 40) (n := 8) rfl (by decide) rfl rfl g rfl ?_
        refine p_goto rfl ?_
        obtain ⟨g, h⟩ := h
        refine pm_asti hΦ (c := 41) (n := 8) rfl (by decide) rfl rfl g ?_
        refine p_iinc (y := x6 + 1) (ls' := [(6, .int (x6 + 1)), (0, .ref m), (1, .int x1), (2, .int x2), (3, .int x3), (4, .int x4), (5, .int x5)]) rfl (by decide) rfl rfl rfl ?_
        refine p_goto rfl ?_
        exact p_loc (ls' := [(0, .ref m), (1, .int x1), (2, .int x2), (3, .int x3), (4, .int x4), (5, .int x5), (6, .int (x6 + 1))]) rfl h
theorem B193_0 {ev : xV} {Q : Option Value → xM → Prop} {m : Nat} {Φ : (Nat → Nat → Int32) → xM} (hΦ : MLaw m Φ) {μ : Nat → Nat → Int32} {x1 x2 : Int32} (h : wpE (xT 193) ev Q (10, [(0, .ref m), (2, .int x2), (3, .int x1), (4, .int ((μ 0 13) - 1))], [], Φ μ)) : wpE (xT 193) ev Q (0, [(0, .ref m), (1, .int x1), (2, .int x2)], [], Φ μ) := by
  refine p_ild rfl rfl ?_
  refine p_ist (ls' := [(3, .int x1), (0, .ref m), (1, .int x1), (2, .int x2)]) rfl (by decide) rfl ?_
  refine p_ald rfl rfl ?_
  refine pm_geti hΦ (v := μ 0 13) rfl rfl ?_
  refine p_push (v := .int 1) rfl ?_
  refine p_bin rfl ?_
  refine p_ist (ls' := [(4, .int ((μ 0 13) - 1)), (3, .int x1), (0, .ref m), (1, .int x1), (2, .int x2)]) rfl (by decide) rfl ?_
  exact p_loc (ls' := [(0, .ref m), (2, .int x2), (3, .int x1), (4, .int ((μ 0 13) - 1))]) rfl h
theorem B193_10 {ev : xV} {Q : Option Value → xM → Prop} {m : Nat} {Φ : (Nat → Nat → Int32) → xM} (hΦ : MLaw m Φ) {μ : Nat → Nat → Int32} {x2 x3 x4 : Int32} (h : ((x4 < 0) → wpE (xT 193) ev Q (38, [(0, .ref m), (2, .int x2), (4, .int 0)], [], Φ μ)) ∧ (¬ (x4 < 0) → vp_in x4 8 ∧ wpE (xT 193) ev Q (10, [(0, .ref m), (2, .int x2), (3, .int (x3 / 5)), (4, .int (x4 + (-1)))], [], Φ (U μ 40 x4.toNatClampNeg (x3 - x3 / 5 * 5))))) : wpE (xT 193) ev Q (10, [(0, .ref m), (2, .int x2), (3, .int x3), (4, .int x4)], [], Φ μ) := by
  refine p_ild rfl rfl ?_
  refine p_if rfl (fun c => ?_) (fun c => ?_)
  · have h := h.1 c
    refine p_push (v := .int 0) rfl ?_
    refine p_ist (ls' := [(4, .int 0), (0, .ref m), (2, .int x2), (3, .int x3)]) rfl (by decide) rfl ?_
    exact p_loc (ls' := [(0, .ref m), (2, .int x2), (4, .int 0)]) rfl h
  · have h := h.2 c
    refine p_ald rfl rfl ?_
    refine pm_getp hΦ rfl (c := 40) rfl (by decide) ?_
    refine p_ild rfl rfl ?_
    refine p_ild rfl rfl ?_
    refine p_push (v := .int 5) rfl ?_
    refine p_div rfl (by decide) ?_
    obtain ⟨g, h⟩ := h
    refine pm_asti hΦ (c := 40) (n := 8) rfl (by decide) rfl rfl g ?_
    refine p_ild rfl rfl ?_
    refine p_push (v := .int 5) rfl ?_
    refine p_div rfl (by decide) ?_
    refine p_ist (ls' := [(3, .int (x3 / 5)), (0, .ref m), (2, .int x2), (4, .int x4)]) rfl (by decide) rfl ?_
    refine p_iinc (y := x4 + (-1)) (ls' := [(4, .int (x4 + (-1))), (3, .int (x3 / 5)), (0, .ref m), (2, .int x2)]) rfl (by decide) rfl rfl rfl ?_
    refine p_goto rfl ?_
    exact p_loc (ls' := [(0, .ref m), (2, .int x2), (3, .int (x3 / 5)), (4, .int (x4 + (-1)))]) rfl h
theorem B193_38 {ev : xV} {Q : Option Value → xM → Prop} {m : Nat} {Φ : (Nat → Nat → Int32) → xM} (hΦ : MLaw m Φ) {μ : Nat → Nat → Int32} {x2 x4 : Int32} (h : ((4 ≤ x4) → wpE (xT 193) ev Q (98, [(0, .ref m), (2, .int x2), (4, .int 0), (5, .int 0)], [], Φ (U μ 0 62 0))) ∧ (¬ (4 ≤ x4) → (((μ 0 8) ≤ x4) → vp_in x4 4 ∧ wpE (xT 193) ev Q (38, [(0, .ref m), (2, .int x2), (4, .int (x4 + 1))], [], Φ (U μ 42 x4.toNatClampNeg 0))) ∧ (¬ ((μ 0 8) ≤ x4) → vp_in x4 5 ∧ (((μ 7 x4.toNatClampNeg) = 0) → vp_in x4 5 ∧ vp_in x4 4 ∧ wpE (xT 193) ev Q (38, [(0, .ref m), (2, .int x2), (4, .int (x4 + 1))], [], Φ (U μ 42 x4.toNatClampNeg (μ 8 x4.toNatClampNeg)))) ∧ (¬ ((μ 7 x4.toNatClampNeg) = 0) → vp_in x4 4 ∧ wpE (xT 193) ev Q (38, [(0, .ref m), (2, .int x2), (4, .int (x4 + 1))], [], Φ (U μ 42 x4.toNatClampNeg 0)))))) : wpE (xT 193) ev Q (38, [(0, .ref m), (2, .int x2), (4, .int x4)], [], Φ μ) := by
  refine p_ild rfl rfl ?_
  refine p_push (v := .int 4) rfl ?_
  refine p_icmp rfl (fun c => ?_) (fun c => ?_)
  · have h := h.1 c
    refine p_ald rfl rfl ?_
    refine p_push (v := .int 0) rfl ?_
    refine pm_puti hΦ rfl ?_
    refine p_push (v := .int 0) rfl ?_
    refine p_ist (ls' := [(4, .int 0), (0, .ref m), (2, .int x2)]) rfl (by decide) rfl ?_
    refine p_push (v := .int 0) rfl ?_
    refine p_ist (ls' := [(5, .int 0), (4, .int 0), (0, .ref m), (2, .int x2)]) rfl (by decide) rfl ?_
    exact p_loc (ls' := [(0, .ref m), (2, .int x2), (4, .int 0), (5, .int 0)]) rfl h
  · have h := h.2 c
    refine p_ald rfl rfl ?_
    refine pm_getp hΦ rfl (c := 42) rfl (by decide) ?_
    refine p_ild rfl rfl ?_
    refine p_ild rfl rfl ?_
    refine p_ald rfl rfl ?_
    refine pm_geti hΦ (v := μ 0 8) rfl rfl ?_
    refine p_icmp rfl (fun c => ?_) (fun c => ?_)
    · have h := h.1 c
      refine p_push (v := .int 0) rfl ?_
      obtain ⟨g, h⟩ := h
      refine pm_asti hΦ (c := 42) (n := 4) rfl (by decide) rfl rfl g ?_
      refine p_iinc (y := x4 + 1) (ls' := [(4, .int (x4 + 1)), (0, .ref m), (2, .int x2)]) rfl (by decide) rfl rfl rfl ?_
      refine p_goto rfl ?_
      exact p_loc (ls' := [(0, .ref m), (2, .int x2), (4, .int (x4 + 1))]) rfl h
    · have h := h.2 c
      refine p_ald rfl rfl ?_
      refine pm_getp hΦ rfl (c := 7) rfl (by decide) ?_
      refine p_ild rfl rfl ?_
      obtain ⟨g, h⟩ := h
      refine pm_aldi hΦ (c := 7) (n := 5) rfl (by decide) rfl rfl g rfl ?_
      refine p_if rfl (fun c => ?_) (fun c => ?_)
      · have h := h.1 c
        refine p_ald rfl rfl ?_
        refine pm_getp hΦ rfl (c := 8) rfl (by decide) ?_
        refine p_ild rfl rfl ?_
        obtain ⟨g, h⟩ := h
        refine pm_aldi hΦ (c := 8) (n := 5) rfl (by decide) rfl rfl g rfl ?_
        refine p_goto rfl ?_
        obtain ⟨g, h⟩ := h
        refine pm_asti hΦ (c := 42) (n := 4) rfl (by decide) rfl rfl g ?_
        refine p_iinc (y := x4 + 1) (ls' := [(4, .int (x4 + 1)), (0, .ref m), (2, .int x2)]) rfl (by decide) rfl rfl rfl ?_
        refine p_goto rfl ?_
        exact p_loc (ls' := [(0, .ref m), (2, .int x2), (4, .int (x4 + 1))]) rfl h
      · have h := h.2 c
        refine p_push (v := .int 0) rfl ?_
        obtain ⟨g, h⟩ := h
        refine pm_asti hΦ (c := 42) (n := 4) rfl (by decide) rfl rfl g ?_
        refine p_iinc (y := x4 + 1) (ls' := [(4, .int (x4 + 1)), (0, .ref m), (2, .int x2)]) rfl (by decide) rfl rfl rfl ?_
        refine p_goto rfl ?_
        exact p_loc (ls' := [(0, .ref m), (2, .int x2), (4, .int (x4 + 1))]) rfl h
theorem B193_98 {ev : xV} {Q : Option Value → xM → Prop} {m : Nat} {Φ : (Nat → Nat → Int32) → xM} (hΦ : MLaw m Φ) {μ : Nat → Nat → Int32} {x2 x4 x5 : Int32} (h : (((μ 0 13) ≤ x5) → Q (some (.int 1)) (Φ (U μ 0 63 ((((x4 &&& 1) + ((x4 >>> (1 &&& 31)) &&& 1)) + ((x4 >>> (2 &&& 31)) &&& 1)) + ((x4 >>> (3 &&& 31)) &&& 1))))) ∧ (¬ ((μ 0 13) ≤ x5) → vp_in x5 8 ∧ (((μ 40 x5.toNatClampNeg) = 4) → wpE (xT 193) ev Q (98, [(0, .ref m), (2, .int x2), (4, .int x4), (5, .int (x5 + 1))], [], Φ μ)) ∧ (¬ ((μ 40 x5.toNatClampNeg) = 4) → ((((x2 >>> (x5 &&& 31)) &&& 1) = 0) → Q (some (.int 0)) (Φ μ)) ∧ (¬ (((x2 >>> (x5 &&& 31)) &&& 1) = 0) → vp_in x5 8 ∧ vp_in (μ 40 x5.toNatClampNeg) 4 ∧ (((μ 39 x5.toNatClampNeg) ≤ (μ 42 (μ 40 x5.toNatClampNeg).toNatClampNeg)) → vp_in (μ 40 x5.toNatClampNeg) 4 ∧ vp_in x5 8 ∧ vp_in (μ 40 x5.toNatClampNeg) 4 ∧ wpE (xT 193) ev Q (98, [(0, .ref m), (2, .int x2), (4, .int (x4 ||| (1 <<< ((μ 40 x5.toNatClampNeg) &&& 31)))), (5, .int (x5 + 1))], [], Φ (U (U μ 42 ((μ 40 x5.toNatClampNeg).toNatClampNeg) ((μ 42 (μ 40 x5.toNatClampNeg).toNatClampNeg) - (μ 39 x5.toNatClampNeg))) 0 62 ((μ 0 62) + 1)))) ∧ (¬ ((μ 39 x5.toNatClampNeg) ≤ (μ 42 (μ 40 x5.toNatClampNeg).toNatClampNeg)) → Q (some (.int 0)) (Φ μ)))))) : wpE (xT 193) ev Q (98, [(0, .ref m), (2, .int x2), (4, .int x4), (5, .int x5)], [], Φ μ) := by
  refine p_ild rfl rfl ?_
  refine p_ald rfl rfl ?_
  refine pm_geti hΦ (v := μ 0 13) rfl rfl ?_
  refine p_icmp rfl (fun c => ?_) (fun c => ?_)
  · have h := h.1 c
    refine p_ald rfl rfl ?_
    refine p_ild rfl rfl ?_
    refine p_push (v := .int 1) rfl ?_
    refine p_bin rfl ?_
    refine p_ild rfl rfl ?_
    refine p_push (v := .int 1) rfl ?_
    refine p_bin rfl ?_
    refine p_push (v := .int 1) rfl ?_
    refine p_bin rfl ?_
    refine p_bin rfl ?_
    refine p_ild rfl rfl ?_
    refine p_push (v := .int 2) rfl ?_
    refine p_bin rfl ?_
    refine p_push (v := .int 1) rfl ?_
    refine p_bin rfl ?_
    refine p_bin rfl ?_
    refine p_ild rfl rfl ?_
    refine p_push (v := .int 3) rfl ?_
    refine p_bin rfl ?_
    refine p_push (v := .int 1) rfl ?_
    refine p_bin rfl ?_
    refine p_bin rfl ?_
    refine pm_puti hΦ rfl ?_
    refine p_push (v := .int 1) rfl ?_
    exact p_ri rfl (by decide) h
  · have h := h.2 c
    refine p_ald rfl rfl ?_
    refine pm_getp hΦ rfl (c := 40) rfl (by decide) ?_
    refine p_ild rfl rfl ?_
    obtain ⟨g, h⟩ := h
    refine pm_aldi hΦ (c := 40) (n := 8) rfl (by decide) rfl rfl g rfl ?_
    refine p_ist (ls' := [(6, .int (μ 40 x5.toNatClampNeg)), (0, .ref m), (2, .int x2), (4, .int x4), (5, .int x5)]) rfl (by decide) rfl ?_
    refine p_ild rfl rfl ?_
    refine p_push (v := .int 4) rfl ?_
    refine p_icmp rfl (fun c => ?_) (fun c => ?_)
    · have h := h.1 c
      refine p_goto rfl ?_
      refine p_loc (ls' := [(0, .ref m), (2, .int x2), (4, .int x4), (5, .int x5)]) rfl ?_
      refine p_iinc (y := x5 + 1) (ls' := [(5, .int (x5 + 1)), (0, .ref m), (2, .int x2), (4, .int x4)]) rfl (by decide) rfl rfl rfl ?_
      refine p_goto rfl ?_
      exact p_loc (ls' := [(0, .ref m), (2, .int x2), (4, .int x4), (5, .int (x5 + 1))]) rfl h
    · have h := h.2 c
      refine p_ild rfl rfl ?_
      refine p_ild rfl rfl ?_
      refine p_bin rfl ?_
      refine p_push (v := .int 1) rfl ?_
      refine p_bin rfl ?_
      refine p_if rfl (fun c => ?_) (fun c => ?_)
      · have h := h.1 c
        refine p_loc (ls' := []) rfl ?_
        refine p_push (v := .int 0) rfl ?_
        exact p_ri rfl (by decide) h
      · have h := h.2 c
        refine p_ald rfl rfl ?_
        refine pm_getp hΦ rfl (c := 39) rfl (by decide) ?_
        refine p_ild rfl rfl ?_
        obtain ⟨g, h⟩ := h
        refine pm_aldi hΦ (c := 39) (n := 8) rfl (by decide) rfl rfl g rfl ?_
        refine p_ald rfl rfl ?_
        refine pm_getp hΦ rfl (c := 42) rfl (by decide) ?_
        refine p_ild rfl rfl ?_
        obtain ⟨g, h⟩ := h
        refine pm_aldi hΦ (c := 42) (n := 4) rfl (by decide) rfl rfl g rfl ?_
        refine p_icmp rfl (fun c => ?_) (fun c => ?_)
        · have h := h.1 c
          refine p_ald rfl rfl ?_
          refine pm_getp hΦ rfl (c := 42) rfl (by decide) ?_
          refine p_ild rfl rfl ?_
          refine p_dup2 rfl rfl rfl ?_
          obtain ⟨g, h⟩ := h
          refine pm_aldi hΦ (c := 42) (n := 4) rfl (by decide) rfl rfl g rfl ?_
          refine p_ald rfl rfl ?_
          refine pm_getp hΦ rfl (c := 39) rfl (by decide) ?_
          refine p_ild rfl rfl ?_
          obtain ⟨g, h⟩ := h
          refine pm_aldi hΦ (c := 39) (n := 8) rfl (by decide) rfl rfl g rfl ?_
          refine p_bin rfl ?_
          obtain ⟨g, h⟩ := h
          refine pm_asti hΦ (c := 42) (n := 4) rfl (by decide) rfl rfl g ?_
          refine p_ald rfl rfl ?_
          refine p_dup rfl rfl ?_
          refine pm_geti hΦ (v := μ 0 62) rfl rfl ?_
          refine p_push (v := .int 1) rfl ?_
          refine p_bin rfl ?_
          refine pm_puti hΦ rfl ?_
          refine p_ild rfl rfl ?_
          refine p_push (v := .int 1) rfl ?_
          refine p_ild rfl rfl ?_
          refine p_bin rfl ?_
          refine p_bin rfl ?_
          refine p_ist (ls' := [(4, .int (x4 ||| (1 <<< ((μ 40 x5.toNatClampNeg) &&& 31)))), (6, .int (μ 40 x5.toNatClampNeg)), (0, .ref m), (2, .int x2), (5, .int x5)]) rfl (by decide) rfl ?_
          refine p_loc (ls' := [(0, .ref m), (2, .int x2), (4, .int (x4 ||| (1 <<< ((μ 40 x5.toNatClampNeg) &&& 31)))), (5, .int x5)]) rfl ?_
          refine p_iinc (y := x5 + 1) (ls' := [(5, .int (x5 + 1)), (0, .ref m), (2, .int x2), (4, .int (x4 ||| (1 <<< ((μ 40 x5.toNatClampNeg) &&& 31))))]) rfl (by decide) rfl rfl rfl ?_
          refine p_goto rfl ?_
          exact p_loc (ls' := [(0, .ref m), (2, .int x2), (4, .int (x4 ||| (1 <<< ((μ 40 x5.toNatClampNeg) &&& 31)))), (5, .int (x5 + 1))]) rfl h
        · have h := h.2 c
          refine p_loc (ls' := []) rfl ?_
          refine p_push (v := .int 0) rfl ?_
          exact p_ri rfl (by decide) h
