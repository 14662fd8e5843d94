theorem B127_0 {ev : xV} {Q : Option Value → xM → Prop} {m : Nat} {Φ : (Nat → Nat → Int32) → xM} (hΦ : MLaw m Φ) {μ : Nat → Nat → Int32} (h : Q none (Φ (U (U (U (U (U (U (U (U (U (U (U (U μ 33 0.toNatClampNeg 7) 34 0.toNatClampNeg 10000) 34 1.toNatClampNeg 3) 34 2.toNatClampNeg (-8)) 34 3.toNatClampNeg 10001) 34 4.toNatClampNeg 10) 34 5.toNatClampNeg (-8)) 34 6.toNatClampNeg (-6)) 33 1.toNatClampNeg 3) 34 160.toNatClampNeg 10003) 34 161.toNatClampNeg 10002) 34 162.toNatClampNeg (-4)))) : wpE (xT 127) ev Q (0, [(0, .ref m)], [], Φ μ) := by
  refine p_ald rfl rfl ?_
  refine pm_getp hΦ rfl (c := 33) rfl (by decide) ?_
  refine p_push (v := .int 0) rfl ?_
  refine p_push (v := .int 7) rfl ?_
  refine pm_asti hΦ (c := 33) (n := 12) rfl (by decide) rfl rfl (by unfold vp_in; decide) ?_
  refine p_ald rfl rfl ?_
  refine pm_getp hΦ rfl (c := 34) rfl (by decide) ?_
  refine p_push (v := .int 0) rfl ?_
  refine p_push (v := .int 10000) rfl ?_
  refine pm_asti hΦ (c := 34) (n := 1920) rfl (by decide) rfl rfl (by unfold vp_in; decide) ?_
  refine p_ald rfl rfl ?_
  refine pm_getp hΦ rfl (c := 34) rfl (by decide) ?_
  refine p_push (v := .int 1) rfl ?_
  refine p_push (v := .int 3) rfl ?_
  refine pm_asti hΦ (c := 34) (n := 1920) rfl (by decide) rfl rfl (by unfold vp_in; decide) ?_
  refine p_ald rfl rfl ?_
  refine pm_getp hΦ rfl (c := 34) rfl (by decide) ?_
  refine p_push (v := .int 2) rfl ?_
  refine p_push (v := .int (-8)) rfl ?_
  refine pm_asti hΦ (c := 34) (n := 1920) rfl (by decide) rfl rfl (by unfold vp_in; decide) ?_
  refine p_ald rfl rfl ?_
  refine pm_getp hΦ rfl (c := 34) rfl (by decide) ?_
  refine p_push (v := .int 3) rfl ?_
  refine p_push (v := .int 10001) rfl ?_
  refine pm_asti hΦ (c := 34) (n := 1920) rfl (by decide) rfl rfl (by unfold vp_in; decide) ?_
  refine p_ald rfl rfl ?_
  refine pm_getp hΦ rfl (c := 34) rfl (by decide) ?_
  refine p_push (v := .int 4) rfl ?_
  refine p_push (v := .int 10) rfl ?_
  refine pm_asti hΦ (c := 34) (n := 1920) rfl (by decide) rfl rfl (by unfold vp_in; decide) ?_
  refine p_ald rfl rfl ?_
  refine pm_getp hΦ rfl (c := 34) rfl (by decide) ?_
  refine p_push (v := .int 5) rfl ?_
  refine p_push (v := .int (-8)) rfl ?_
  refine pm_asti hΦ (c := 34) (n := 1920) rfl (by decide) rfl rfl (by unfold vp_in; decide) ?_
  refine p_ald rfl rfl ?_
  refine pm_getp hΦ rfl (c := 34) rfl (by decide) ?_
  refine p_push (v := .int 6) rfl ?_
  refine p_push (v := .int (-6)) rfl ?_
  refine pm_asti hΦ (c := 34) (n := 1920) rfl (by decide) rfl rfl (by unfold vp_in; decide) ?_
  refine p_ald rfl rfl ?_
  refine pm_getp hΦ rfl (c := 33) rfl (by decide) ?_
  refine p_push (v := .int 1) rfl ?_
  refine p_push (v := .int 3) rfl ?_
  refine pm_asti hΦ (c := 33) (n := 12) rfl (by decide) rfl rfl (by unfold vp_in; decide) ?_
  refine p_ald rfl rfl ?_
  refine pm_getp hΦ rfl (c := 34) rfl (by decide) ?_
  refine p_push (v := .int 160) rfl ?_
  refine p_push (v := .int 10003) rfl ?_
  refine pm_asti hΦ (c := 34) (n := 1920) rfl (by decide) rfl rfl (by unfold vp_in; decide) ?_
  refine p_ald rfl rfl ?_
  refine pm_getp hΦ rfl (c := 34) rfl (by decide) ?_
  refine p_push (v := .int 161) rfl ?_
  refine p_push (v := .int 10002) rfl ?_
  refine pm_asti hΦ (c := 34) (n := 1920) rfl (by decide) rfl rfl (by unfold vp_in; decide) ?_
  refine p_ald rfl rfl ?_
  refine pm_getp hΦ rfl (c := 34) rfl (by decide) ?_
  refine p_push (v := .int 162) rfl ?_
  refine p_push (v := .int (-4)) rfl ?_
  refine pm_asti hΦ (c := 34) (n := 1920) rfl (by decide) rfl rfl (by unfold vp_in; decide) ?_
  exact p_rv rfl h
theorem B128_0 {ev : xV} {Q : Option Value → xM → Prop} {m : Nat} {Φ : (Nat → Nat → Int32) → xM} (hΦ : MLaw m Φ) {μ : Nat → Nat → Int32} {x1 : Int32} {w2 : Int64} (h : (∃ r μ', ev 129 [.ref m, .int x1, .int 1, .int 8] (Φ μ) (some (.int r)) (Φ μ') ∧ wpE (xT 128) ev Q (8, [(0, .ref m), (1, .int x1), (2, .long w2)], [.int r], Φ μ'))) : wpE (xT 128) ev Q (0, [(0, .ref m), (1, .int x1), (2, .long w2)], [], Φ μ) := by
  refine p_ald rfl rfl ?_
  refine p_ild rfl rfl ?_
  refine p_push (v := .int 1) rfl ?_
  refine p_push (v := .int 8) rfl ?_
  obtain ⟨r, μ', he, h⟩ := h
  exact p_callV rfl (Nat.le_of_ble_eq_true rfl) rfl rfl (Nat.le_of_ble_eq_true rfl) (ml_kd hΦ) he h
theorem B128_8 {ev : xV} {Q : Option Value → xM → Prop} {m : Nat} {Φ : (Nat → Nat → Int32) → xM} (hΦ : MLaw m Φ) {μ : Nat → Nat → Int32} {x1 s0 : Int32} {w2 : Int64} (h : ((s0 = 0) → Q (some (.int ((-2)))) (Φ μ)) ∧ (¬ (s0 = 0) → ((((μ 0 1) + x1) ≤ 160) → wpE (xT 128) ev Q (32, [(0, .ref m), (1, .int x1), (2, .long w2), (4, .int 0)], [], Φ μ)) ∧ (¬ (((μ 0 1) + x1) ≤ 160) → Q (some (.int ((-4)))) (Φ μ)))) : wpE (xT 128) ev Q (8, [(0, .ref m), (1, .int x1), (2, .long w2)], [.int s0], Φ μ) := by
  refine p_if rfl (fun c => ?_) (fun c => ?_)
  · have h := h.1 c
    refine p_push (v := .int (-2)) rfl ?_
    exact p_ri rfl trivial h
  · have h := h.2 c
    refine p_ald rfl rfl ?_
    refine pm_geti hΦ (v := μ 0 1) rfl rfl ?_
    refine p_ild rfl rfl ?_
    refine p_bin rfl ?_
    refine p_push (v := .int 160) rfl ?_
    refine p_icmp rfl (fun c => ?_) (fun c => ?_)
    · have h := h.1 c
      refine p_push (v := .int 0) rfl ?_
      refine p_ist (ls' := [(4, .int 0), (0, .ref m), (1, .int x1), (2, .long w2)]) rfl (by decide) rfl ?_
      exact p_loc (ls' := [(0, .ref m), (1, .int x1), (2, .long w2), (4, .int 0)]) rfl h
    · have h := h.2 c
      refine p_push (v := .int (-4)) rfl ?_
      exact p_ri rfl trivial h
theorem B128_32 {ev : xV} {Q : Option Value → xM → Prop} {m : Nat} {Φ : (Nat → Nat → Int32) → xM} (hΦ : MLaw m Φ) {μ : Nat → Nat → Int32} {x1 x4 : Int32} {w2 : Int64} (h : ((x1 ≤ x4) → Q (some (.int (μ 0 1))) (Φ μ)) ∧ (¬ (x1 ≤ x4) → vp_in (μ 0 1) 160 ∧ wpE (xT 128) ev Q (32, [(0, .ref m), (1, .int x1), (2, .long w2), (4, .int (x4 + 1))], [], Φ (U (U μ 1 ((μ 0 1).toNatClampNeg) (vp_nar .byte (((w2 >>> ((8 * x4).toInt64 &&& 63)).toInt32).toInt8.toInt32))) 0 1 ((μ 0 1) + 1))))) : wpE (xT 128) ev Q (32, [(0, .ref m), (1, .int x1), (2, .long w2), (4, .int x4)], [], Φ μ) := by
  refine p_ild rfl rfl ?_
  refine p_ild rfl rfl ?_
  refine p_icmp rfl (fun c => ?_) (fun c => ?_)
  · have h := h.1 c
    refine p_ald rfl rfl ?_
    refine pm_geti hΦ (v := μ 0 1) rfl rfl ?_
    exact p_ri rfl trivial h
  · have h := h.2 c
    refine p_ald rfl rfl ?_
    refine pm_getp hΦ rfl (c := 1) rfl (by decide) ?_
    refine p_ald rfl rfl ?_
    refine pm_geti hΦ (v := μ 0 1) rfl rfl ?_
    refine p_lld rfl rfl ?_
    refine p_push (v := .int 8) rfl ?_
    refine p_ild rfl rfl ?_
    refine p_bin rfl ?_
    refine p_shL rfl ?_
    refine p_l2i rfl ?_
    refine p_un rfl ?_
    obtain ⟨g, h⟩ := h
    refine pm_asti hΦ (c := 1) (n := 160) rfl (by decide) rfl rfl g ?_
    refine p_ald rfl rfl ?_
    refine p_dup rfl rfl ?_
    refine pm_geti hΦ (v := μ 0 1) rfl rfl ?_
    refine p_push (v := .int 1) rfl ?_
    refine p_bin rfl ?_
    refine pm_puti hΦ rfl ?_
    refine p_iinc (y := x4 + 1) (ls' := [(4, .int (x4 + 1)), (0, .ref m), (1, .int x1), (2, .long w2)]) rfl (by decide) rfl rfl rfl ?_
    refine p_goto rfl ?_
    exact p_loc (ls' := [(0, .ref m), (1, .int x1), (2, .long w2), (4, .int (x4 + 1))]) rfl h
theorem B129_0 {ev : xV} {Q : Option Value → xM → Prop} {m : Nat} {Φ : (Nat → Nat → Int32) → xM} (hΦ : MLaw m Φ) {μ : Nat → Nat → Int32} {x1 x2 x3 : Int32} (h : ((x1 < x2) → Q (some (.int 0)) (Φ μ)) ∧ (¬ (x1 < x2) → ((x3 < x1) → Q (some (.int 0)) (Φ μ)) ∧ (¬ (x3 < x1) → Q (some (.int 1)) (Φ μ)))) : wpE (xT 129) ev Q (0, [(0, .ref m), (1, .int x1), (2, .int x2), (3, .int x3)], [], Φ μ) := by
  refine p_ild rfl rfl ?_
  refine p_ild rfl rfl ?_
  refine p_icmp rfl (fun c => ?_) (fun c => ?_)
  · have h := h.1 c
    refine p_loc (ls' := []) rfl ?_
    refine p_push (v := .int 0) rfl ?_
    exact p_ri rfl (by decide) h
  · have h := h.2 c
    refine p_ild rfl rfl ?_
    refine p_ild rfl rfl ?_
    refine p_icmp rfl (fun c => ?_) (fun c => ?_)
    · have h := h.1 c
      refine p_loc (ls' := []) rfl ?_
      refine p_push (v := .int 0) rfl ?_
      exact p_ri rfl (by decide) h
    · have h := h.2 c
      refine p_push (v := .int 1) rfl ?_
      refine p_goto rfl ?_
      refine p_loc (ls' := []) rfl ?_
      exact p_ri rfl (by decide) h
theorem B130_0 {ev : xV} {Q : Option Value → xM → Prop} {m : Nat} {Φ : (Nat → Nat → Int32) → xM} (hΦ : MLaw m Φ) {μ : Nat → Nat → Int32} (h : (((μ 0 2) = 4) → Q (some (.int ((-4)))) (Φ μ)) ∧ (¬ ((μ 0 2) = 4) → (∃ r μ', ev 131 [.ref m, .int (μ 0 2)] (Φ μ) (some (.int r)) (Φ μ') ∧ wpE (xT 130) ev Q (19, [(0, .ref m)], [.int r], Φ μ')))) : wpE (xT 130) ev Q (0, [(0, .ref m)], [], Φ μ) := by
  refine p_ald rfl rfl ?_
  refine pm_geti hΦ (v := μ 0 2) rfl rfl ?_
  refine p_push (v := .int 4) rfl ?_
  refine p_icmp rfl (fun c => ?_) (fun c => ?_)
  · have h := h.1 c
    refine p_push (v := .int (-4)) rfl ?_
    exact p_ri rfl trivial h
  · have h := h.2 c
    refine p_ald rfl rfl ?_
    refine p_ald rfl rfl ?_
    refine pm_geti hΦ (v := μ 0 2) rfl rfl ?_
    obtain ⟨r, μ', he, h⟩ := h
    exact p_callV rfl (Nat.le_of_ble_eq_true rfl) rfl rfl (Nat.le_of_ble_eq_true rfl) (ml_kd hΦ) he h
theorem B130_19 {ev : xV} {Q : Option Value → xM → Prop} {m : Nat} {Φ : (Nat → Nat → Int32) → xM} (hΦ : MLaw m Φ) {μ : Nat → Nat → Int32} {s0 : Int32} (h : ((s0 = 0) → Q (some (.int ((-100) - (μ 0 46)))) (Φ (U μ 0 1 0))) ∧ (¬ (s0 = 0) → wpE (xT 130) ev Q (44, [(0, .ref m), (3, .int 0), (4, .int 0)], [], Φ (U μ 0 1 0)))) : wpE (xT 130) ev Q (19, [(0, .ref m)], [.int s0], Φ μ) := by
  refine p_ist (ls' := [(1, .int s0), (0, .ref m)]) rfl (by decide) rfl ?_
  refine p_ald rfl rfl ?_
  refine pm_geti hΦ (v := μ 0 46) rfl rfl ?_
  refine p_ist (ls' := [(2, .int (μ 0 46)), (1, .int s0), (0, .ref m)]) rfl (by decide) rfl ?_
  refine p_ald rfl rfl ?_
  refine p_push (v := .int 0) rfl ?_
  refine pm_puti hΦ rfl ?_
  refine p_ild rfl rfl ?_
  refine p_if rfl (fun c => ?_) (fun c => ?_)
  · have h := h.1 c
    refine p_push (v := .int (-100)) rfl ?_
    refine p_ild rfl rfl ?_
    refine p_bin rfl ?_
    exact p_ri rfl trivial h
  · have h := h.2 c
    refine p_push (v := .int 0) rfl ?_
    refine p_ist (ls' := [(3, .int 0), (2, .int (μ 0 46)), (1, .int s0), (0, .ref m)]) rfl (by decide) rfl ?_
    refine p_push (v := .int 0) rfl ?_
    refine p_ist (ls' := [(4, .int 0), (3, .int 0), (2, .int (μ 0 46)), (1, .int s0), (0, .ref m)]) rfl (by decide) rfl ?_
    exact p_loc (ls' := [(0, .ref m), (3, .int 0), (4, .int 0)]) rfl h
theorem B130_44 {ev : xV} {Q : Option Value → xM → Prop} {m : Nat} {Φ : (Nat → Nat → Int32) → xM} (hΦ : MLaw m Φ) {μ : Nat → Nat → Int32} {x3 x4 : Int32} (h : vp_in (μ 0 2) 5 ∧ (((μ 2 (μ 0 2).toNatClampNeg) ≤ x4) → ((x3 ≤ 400) → vp_in (μ 0 2) 5 ∧ Q (some (.int (((μ 0 2) + 1) - 1))) (Φ (U (U μ 3 ((μ 0 2).toNatClampNeg) x3) 0 2 ((μ 0 2) + 1)))) ∧ (¬ (x3 ≤ 400) → Q (some (.int ((-9)))) (Φ μ))) ∧ (¬ ((μ 2 (μ 0 2).toNatClampNeg) ≤ x4) → vp_in ((10 * (μ 0 2)) + x4) 50 ∧ vp_in (μ 0 2) 5 ∧ (((μ 6 (μ 0 2).toNatClampNeg) = 0) → wpE (xT 130) ev Q (44, [(0, .ref m), (3, .int (x3 + ((μ 5 ((10 * (μ 0 2)) + x4).toNatClampNeg) * 1))), (4, .int (x4 + 1))], [], Φ μ)) ∧ (¬ ((μ 6 (μ 0 2).toNatClampNeg) = 0) → ((x4 ≤ 0) → wpE (xT 130) ev Q (44, [(0, .ref m), (3, .int (x3 + ((μ 5 ((10 * (μ 0 2)) + x4).toNatClampNeg) * 1))), (4, .int (x4 + 1))], [], Φ μ)) ∧ (¬ (x4 ≤ 0) → vp_in (μ 0 2) 5 ∧ ((((μ 2 (μ 0 2).toNatClampNeg) - 1) ≤ x4) → wpE (xT 130) ev Q (44, [(0, .ref m), (3, .int (x3 + ((μ 5 ((10 * (μ 0 2)) + x4).toNatClampNeg) * 1))), (4, .int (x4 + 1))], [], Φ μ)) ∧ (¬ (((μ 2 (μ 0 2).toNatClampNeg) - 1) ≤ x4) → wpE (xT 130) ev Q (44, [(0, .ref m), (3, .int (x3 + ((μ 5 ((10 * (μ 0 2)) + x4).toNatClampNeg) * 2))), (4, .int (x4 + 1))], [], Φ μ)))))) : wpE (xT 130) ev Q (44, [(0, .ref m), (3, .int x3), (4, .int x4)], [], Φ μ) := by
  refine p_ild rfl rfl ?_
  refine p_ald rfl rfl ?_
  refine pm_getp hΦ rfl (c := 2) rfl (by decide) ?_
  refine p_ald rfl rfl ?_
  refine pm_geti hΦ (v := μ 0 2) rfl rfl ?_
  obtain ⟨g, h⟩ := h
  refine pm_aldi hΦ (c := 2) (n := 5) rfl (by decide) rfl rfl g rfl ?_
  refine p_icmp rfl (fun c => ?_) (fun c => ?_)
  · have h := h.1 c
    refine p_ild rfl rfl ?_
    refine p_push (v := .int 400) rfl ?_
    refine p_icmp rfl (fun c => ?_) (fun c => ?_)
    · have h := h.1 c
      refine p_ald rfl rfl ?_
      refine pm_getp hΦ rfl (c := 3) rfl (by decide) ?_
      refine p_ald rfl rfl ?_
      refine pm_geti hΦ (v := μ 0 2) rfl rfl ?_
      refine p_ild rfl rfl ?_
      obtain ⟨g, h⟩ := h
      refine pm_asti hΦ (c := 3) (n := 5) rfl (by decide) rfl rfl g ?_
      refine p_ald rfl rfl ?_
      refine p_dup rfl rfl ?_
      refine pm_geti hΦ (v := μ 0 2) rfl rfl ?_
      refine p_push (v := .int 1) rfl ?_
      refine p_bin rfl ?_
      refine pm_puti hΦ rfl ?_
      refine p_ald rfl rfl ?_
      refine pm_geti hΦ (v := (μ 0 2) + 1) rfl rfl ?_
      refine p_push (v := .int 1) rfl ?_
      refine p_bin rfl ?_
      exact p_ri rfl trivial h
    · have h := h.2 c
      refine p_push (v := .int (-9)) rfl ?_
      exact p_ri rfl trivial h
  · have h := h.2 c
    refine p_ild rfl rfl ?_
    refine p_ald rfl rfl ?_
    refine pm_getp hΦ rfl (c := 5) rfl (by decide) ?_
    refine p_push (v := .int 10) rfl ?_
    refine p_ald rfl rfl ?_
    refine pm_geti hΦ (v := μ 0 2) rfl rfl ?_
    refine p_bin rfl ?_
    refine p_ild rfl rfl ?_
    refine p_bin rfl ?_
    obtain ⟨g, h⟩ := h
    refine pm_aldi hΦ (c := 5) (n := 50) rfl (by decide) rfl rfl g rfl ?_
    refine p_ald rfl rfl ?_
    refine pm_getp hΦ rfl (c := 6) rfl (by decide) ?_
    refine p_ald rfl rfl ?_
    refine pm_geti hΦ (v := μ 0 2) rfl rfl ?_
    obtain ⟨g, h⟩ := h
    refine pm_aldi hΦ (c := 6) (n := 5) rfl (by decide) rfl rfl g rfl ?_
    refine p_if rfl (fun c => ?_) (fun c => ?_)
    · have h := h.1 c
      refine p_loc (ls' := [(0, .ref m), (4, .int x4)]) rfl ?_
      refine p_push (v := .int 1) rfl ?_
      refine p_bin rfl ?_
      refine p_bin rfl ?_
      refine p_ist (ls' := [(3, .int (x3 + ((μ 5 ((10 * (μ 0 2)) + x4).toNatClampNeg) * 1))), (0, .ref m), (4, .int x4)]) rfl (by decide) rfl ?_
      refine p_iinc (y := x4 + 1) (ls' := [(4, .int (x4 + 1)), (3, .int (x3 + ((μ 5 ((10 * (μ 0 2)) + x4).toNatClampNeg) * 1))), (0, .ref m)]) rfl (by decide) rfl rfl rfl ?_
      refine p_goto rfl ?_
      exact p_loc (ls' := [(0, .ref m), (3, .int (x3 + ((μ 5 ((10 * (μ 0 2)) + x4).toNatClampNeg) * 1))), (4, .int (x4 + 1))]) rfl h
    · have h := h.2 c
      refine p_ild rfl rfl ?_
      refine p_if rfl (fun c => ?_) (fun c => ?_)
      · have h := h.1 c
        refine p_loc (ls' := [(0, .ref m), (4, .int x4)]) rfl ?_
        refine p_push (v := .int 1) rfl ?_
        refine p_bin rfl ?_
        refine p_bin rfl ?_
        refine p_ist (ls' := [(3, .int (x3 + ((μ 5 ((10 * (μ 0 2)) + x4).toNatClampNeg) * 1))), (0, .ref m), (4, .int x4)]) rfl (by decide) rfl ?_
        refine p_iinc (y := x4 + 1) (ls' := [(4, .int (x4 + 1)), (3, .int (x3 + ((μ 5 ((10 * (μ 0 2)) + x4).toNatClampNeg) * 1))), (0, .ref m)]) rfl (by decide) rfl rfl rfl ?_
        refine p_goto rfl ?_
        exact p_loc (ls' := [(0, .ref m), (3, .int (x3 + ((μ 5 ((10 * (μ 0 2)) + x4).toNatClampNeg) * 1))), (4, .int (x4 + 1))]) rfl h
      · have h := h.2 c
        refine p_ild rfl rfl ?_
        refine p_ald rfl rfl ?_
        refine pm_getp hΦ rfl (c := 2) rfl (by decide) ?_
        refine p_ald rfl rfl ?_
        refine pm_geti hΦ (v := μ 0 2) rfl rfl ?_
        obtain ⟨g, h⟩ := h
        refine pm_aldi hΦ (c := 2) (n := 5) rfl (by decide) rfl rfl g rfl ?_
        refine p_push (v := .int 1) rfl ?_
        refine p_bin rfl ?_
        refine p_icmp rfl (fun c => ?_) (fun c => ?_)
        · have h := h.1 c
          refine p_loc (ls' := [(0, .ref m), (4, .int x4)]) rfl ?_
          refine p_push (v := .int 1) rfl ?_
          refine p_bin rfl ?_
          refine p_bin rfl ?_
          refine p_ist (ls' := [(3, .int (x3 + ((μ 5 ((10 * (μ 0 2)) + x4).toNatClampNeg) * 1))), (0, .ref m), (4, .int x4)]) rfl (by decide) rfl ?_
          refine p_iinc (y := x4 + 1) (ls' := [(4, .int (x4 + 1)), (3, .int (x3 + ((μ 5 ((10 * (μ 0 2)) + x4).toNatClampNeg) * 1))), (0, .ref m)]) rfl (by decide) rfl rfl rfl ?_
          refine p_goto rfl ?_
          exact p_loc (ls' := [(0, .ref m), (3, .int (x3 + ((μ 5 ((10 * (μ 0 2)) + x4).toNatClampNeg) * 1))), (4, .int (x4 + 1))]) rfl h
        · have h := h.2 c
          refine p_push (v := .int 2) rfl ?_
          refine p_goto rfl ?_
          refine p_loc (ls' := [(0, .ref m), (4, .int x4)]) rfl ?_
          refine p_bin rfl ?_
          refine p_bin rfl ?_
          refine p_ist (ls' := [(3, .int (x3 + ((μ 5 ((10 * (μ 0 2)) + x4).toNatClampNeg) * 2))), (0, .ref m), (4, .int x4)]) rfl (by decide) rfl ?_
          refine p_iinc (y := x4 + 1) (ls' := [(4, .int (x4 + 1)), (3, .int (x3 + ((μ 5 ((10 * (μ 0 2)) + x4).toNatClampNeg) * 2))), (0, .ref m)]) rfl (by decide) rfl rfl rfl ?_
          refine p_goto rfl ?_
          exact p_loc (ls' := [(0, .ref m), (3, .int (x3 + ((μ 5 ((10 * (μ 0 2)) + x4).toNatClampNeg) * 2))), (4, .int (x4 + 1))]) rfl h
theorem B131_0 {ev : xV} {Q : Option Value → xM → Prop} {m : Nat} {Φ : (Nat → Nat → Int32) → xM} (hΦ : MLaw m Φ) {μ : Nat → Nat → Int32} {x1 : Int32} (h : vp_in x1 5 ∧ (∃ r μ', ev 132 [.ref m, .int x1] (Φ (U (U μ 0 46 0) 2 x1.toNatClampNeg 0)) (some (.int r)) (Φ μ') ∧ wpE (xT 131) ev Q (17, [(0, .ref m), (1, .int x1)], [.int r], Φ μ'))) : wpE (xT 131) ev Q (0, [(0, .ref m), (1, .int x1)], [], Φ μ) := by
  refine p_ald rfl rfl ?_
  refine p_push (v := .int 0) rfl ?_
  refine pm_puti hΦ rfl ?_
  refine p_ald rfl rfl ?_
  refine pm_getp hΦ rfl (c := 2) rfl (by decide) ?_
  refine p_ild rfl rfl ?_
  refine p_push (v := .int 0) rfl ?_
  obtain ⟨g, h⟩ := h
  refine pm_asti hΦ (c := 2) (n := 5) rfl (by decide) rfl rfl g ?_
  refine p_ald rfl rfl ?_
  refine p_ild rfl rfl ?_
  obtain ⟨r, μ', he, h⟩ := h
  exact p_callV rfl (Nat.le_of_ble_eq_true rfl) rfl rfl (Nat.le_of_ble_eq_true rfl) (ml_kd hΦ) he h
theorem B131_17 {ev : xV} {Q : Option Value → xM → Prop} {m : Nat} {Φ : (Nat → Nat → Int32) → xM} (hΦ : MLaw m Φ) {μ : Nat → Nat → Int32} {x1 s0 : Int32} (h : ((s0 = 0) → Q (some (.int 0)) (Φ μ)) ∧ (¬ (s0 = 0) → wpE (xT 131) ev Q (22, [(0, .ref m), (1, .int x1)], [], Φ μ))) : wpE (xT 131) ev Q (17, [(0, .ref m), (1, .int x1)], [.int s0], Φ μ) := by
  refine p_if rfl (fun c => ?_) (fun c => ?_)
  · have h := h.1 c
    refine p_push (v := .int 0) rfl ?_
    exact p_ri rfl (by decide) h
  · have h := h.2 c
    exact h
theorem B131_22 {ev : xV} {Q : Option Value → xM → Prop} {m : Nat} {Φ : (Nat → Nat → Int32) → xM} (hΦ : MLaw m Φ) {μ : Nat → Nat → Int32} {x1 : Int32} (h : (((μ 0 1) ≤ (μ 0 46)) → wpE (xT 131) ev Q (78, [(0, .ref m), (1, .int x1)], [], Φ μ)) ∧ (¬ ((μ 0 1) ≤ (μ 0 46)) → vp_in (μ 0 46) 160 ∧ (((μ 1 (μ 0 46).toNatClampNeg) = 32) → vp_in x1 5 ∧ ((10 ≤ (μ 2 x1.toNatClampNeg)) → wpE (xT 131) ev Q (78, [(0, .ref m), (1, .int x1)], [], Φ μ)) ∧ (¬ (10 ≤ (μ 2 x1.toNatClampNeg)) → (∃ r μ', ev 132 [.ref m, .int x1] (Φ (U μ 0 46 ((μ 0 46) + 1))) (some (.int r)) (Φ μ') ∧ wpE (xT 131) ev Q (73, [(0, .ref m), (1, .int x1)], [.int r], Φ μ')))) ∧ (¬ ((μ 1 (μ 0 46).toNatClampNeg) = 32) → wpE (xT 131) ev Q (78, [(0, .ref m), (1, .int x1)], [], Φ μ)))) : wpE (xT 131) ev Q (22, [(0, .ref m), (1, .int x1)], [], Φ μ) := by
  refine p_ald rfl rfl ?_
  refine pm_geti hΦ (v := μ 0 46) rfl rfl ?_
  refine p_ald rfl rfl ?_
  refine pm_geti hΦ (v := μ 0 1) rfl rfl ?_
  refine p_icmp rfl (fun c => ?_) (fun c => ?_)
  · have h := h.1 c
    exact h
  · have h := h.2 c
    refine p_ald rfl rfl ?_
    refine pm_getp hΦ rfl (c := 1) rfl (by decide) ?_
    refine p_ald rfl rfl ?_
    refine pm_geti hΦ (v := μ 0 46) rfl rfl ?_
    obtain ⟨g, h⟩ := h
    refine pm_aldi hΦ (c := 1) (n := 160) rfl (by decide) rfl rfl g rfl ?_
    refine p_push (v := .int 32) rfl ?_
    refine p_icmp rfl (fun c => ?_) (fun c => ?_)
    · have h := h.1 c
      refine p_ald rfl rfl ?_
      refine pm_getp hΦ rfl (c := 2) rfl (by decide) ?_
      refine p_ild rfl rfl ?_
      obtain ⟨g, h⟩ := h
      refine pm_aldi hΦ (c := 2) (n := 5) rfl (by decide) rfl rfl g rfl ?_
      refine p_push (v := .int 10) rfl ?_
      refine p_icmp rfl (fun c => ?_) (fun c => ?_)
      · have h := h.1 c
        exact h
      · have h := h.2 c
        refine p_ald rfl rfl ?_
        refine p_dup rfl rfl ?_
        refine pm_geti hΦ (v := μ 0 46) rfl rfl ?_
        refine p_push (v := .int 1) rfl ?_
        refine p_bin rfl ?_
        refine pm_puti hΦ rfl ?_
        refine p_ald rfl rfl ?_
        refine p_ild rfl rfl ?_
        obtain ⟨r, μ', he, h⟩ := h
        exact p_callV rfl (Nat.le_of_ble_eq_true rfl) rfl rfl (Nat.le_of_ble_eq_true rfl) (ml_kd hΦ) he h
    · have h := h.2 c
      exact h
theorem B131_73 {ev : xV} {Q : Option Value → xM → Prop} {m : Nat} {Φ : (Nat → Nat → Int32) → xM} (hΦ : MLaw m Φ) {μ : Nat → Nat → Int32} {x1 s0 : Int32} (h : ((s0 = 0) → Q (some (.int 0)) (Φ μ)) ∧ (¬ (s0 = 0) → wpE (xT 131) ev Q (22, [(0, .ref m), (1, .int x1)], [], Φ μ))) : wpE (xT 131) ev Q (73, [(0, .ref m), (1, .int x1)], [.int s0], Φ μ) := by
  refine p_if rfl (fun c => ?_) (fun c => ?_)
  · have h := h.1 c
    refine p_push (v := .int 0) rfl ?_
    exact p_ri rfl (by decide) h
  · have h := h.2 c
    exact h
theorem B131_78 {ev : xV} {Q : Option Value → xM → Prop} {m : Nat} {Φ : (Nat → Nat → Int32) → xM} (hΦ : MLaw m Φ) {μ : Nat → Nat → Int32} {x1 : Int32} (h : (((μ 0 46) = (μ 0 1)) → Q (some (.int 0)) (Φ μ)) ∧ (¬ ((μ 0 46) = (μ 0 1)) → vp_in (μ 0 46) 160 ∧ (((μ 1 (μ 0 46).toNatClampNeg) = 47) → wpE (xT 131) ev Q (119, [(0, .ref m), (1, .int x1)], [], Φ μ)) ∧ (¬ ((μ 1 (μ 0 46).toNatClampNeg) = 47) → vp_in (μ 0 46) 160 ∧ (((μ 1 (μ 0 46).toNatClampNeg) = 59) → wpE (xT 131) ev Q (119, [(0, .ref m), (1, .int x1)], [], Φ μ)) ∧ (¬ ((μ 1 (μ 0 46).toNatClampNeg) = 59) → Q (some (.int 0)) (Φ μ))))) : wpE (xT 131) ev Q (78, [(0, .ref m), (1, .int x1)], [], Φ μ) := by
  refine p_ald rfl rfl ?_
  refine pm_geti hΦ (v := μ 0 46) rfl rfl ?_
  refine p_ald rfl rfl ?_
  refine pm_geti hΦ (v := μ 0 1) rfl rfl ?_
  refine p_icmp rfl (fun c => ?_) (fun c => ?_)
  · have h := h.1 c
    refine p_loc (ls' := []) rfl ?_
    refine p_push (v := .int 0) rfl ?_
    exact p_ri rfl (by decide) h
  · have h := h.2 c
    refine p_ald rfl rfl ?_
    refine pm_getp hΦ rfl (c := 1) rfl (by decide) ?_
    refine p_ald rfl rfl ?_
    refine pm_geti hΦ (v := μ 0 46) rfl rfl ?_
    obtain ⟨g, h⟩ := h
    refine pm_aldi hΦ (c := 1) (n := 160) rfl (by decide) rfl rfl g rfl ?_
    refine p_push (v := .int 47) rfl ?_
    refine p_icmp rfl (fun c => ?_) (fun c => ?_)
    · have h := h.1 c
      exact h
    · have h := h.2 c
      refine p_ald rfl rfl ?_
      refine pm_getp hΦ rfl (c := 1) rfl (by decide) ?_
      refine p_ald rfl rfl ?_
      refine pm_geti hΦ (v := μ 0 46) rfl rfl ?_
      obtain ⟨g, h⟩ := h
      refine pm_aldi hΦ (c := 1) (n := 160) rfl (by decide) rfl rfl g rfl ?_
      refine p_push (v := .int 59) rfl ?_
      refine p_icmp rfl (fun c => ?_) (fun c => ?_)
      · have h := h.1 c
        exact h
      · have h := h.2 c
        refine p_loc (ls' := []) rfl ?_
        refine p_push (v := .int 0) rfl ?_
        exact p_ri rfl (by decide) h
theorem B131_119 {ev : xV} {Q : Option Value → xM → Prop} {m : Nat} {Φ : (Nat → Nat → Int32) → xM} (hΦ : MLaw m Φ) {μ : Nat → Nat → Int32} {x1 : Int32} (h : vp_in (μ 0 46) 160 ∧ (((μ 1 (μ 0 46).toNatClampNeg) = 47) → wpE (xT 131) ev Q (143, [(0, .ref m)], [.int 1, .int x1, .ref (m + 6)], Φ μ)) ∧ (¬ ((μ 1 (μ 0 46).toNatClampNeg) = 47) → wpE (xT 131) ev Q (143, [(0, .ref m)], [.int 0, .int x1, .ref (m + 6)], Φ μ))) : wpE (xT 131) ev Q (119, [(0, .ref m), (1, .int x1)], [], Φ μ) := by
  refine p_ald rfl rfl ?_
  refine pm_getp hΦ rfl (c := 6) rfl (by decide) ?_
  refine p_ild rfl rfl ?_
  refine p_ald rfl rfl ?_
  refine pm_getp hΦ rfl (c := 1) rfl (by decide) ?_
  refine p_ald rfl rfl ?_
  refine pm_geti hΦ (v := μ 0 46) rfl rfl ?_
  obtain ⟨g, h⟩ := h
  refine pm_aldi hΦ (c := 1) (n := 160) rfl (by decide) rfl rfl g rfl ?_
  refine p_push (v := .int 47) rfl ?_
  refine p_icmp rfl (fun c => ?_) (fun c => ?_)
  · have h := h.1 c
    refine p_push (v := .int 1) rfl ?_
    refine p_goto rfl ?_
    exact p_loc (ls' := [(0, .ref m)]) rfl h
  · have h := h.2 c
    refine p_push (v := .int 0) rfl ?_
    exact p_loc (ls' := [(0, .ref m)]) rfl h
theorem B131_143 {ev : xV} {Q : Option Value → xM → Prop} {m : Nat} {Φ : (Nat → Nat → Int32) → xM} (hΦ : MLaw m Φ) {μ : Nat → Nat → Int32} {s0 s1 : Int32} (h : vp_in s1 5 ∧ ((((μ 0 46) + 1) = (μ 0 1)) → Q (some (.int 1)) (Φ (U (U μ 6 s1.toNatClampNeg (vp_nar .boolean s0)) 0 46 ((μ 0 46) + 1)))) ∧ (¬ (((μ 0 46) + 1) = (μ 0 1)) → Q (some (.int 0)) (Φ (U (U μ 6 s1.toNatClampNeg (vp_nar .boolean s0)) 0 46 ((μ 0 46) + 1))))) : wpE (xT 131) ev Q (143, [(0, .ref m)], [.int s0, .int s1, .ref (m + 6)], Φ μ) := by
  obtain ⟨g, h⟩ := h
  refine pm_asti hΦ (c := 6) (n := 5) rfl (by decide) rfl rfl g ?_
  refine p_ald rfl rfl ?_
  refine p_dup rfl rfl ?_
  refine pm_geti hΦ (v := μ 0 46) rfl rfl ?_
  refine p_push (v := .int 1) rfl ?_
  refine p_bin rfl ?_
  refine pm_puti hΦ rfl ?_
  refine p_ald rfl rfl ?_
  refine pm_geti hΦ (v := (μ 0 46) + 1) rfl rfl ?_
  refine p_ald rfl rfl ?_
  refine pm_geti hΦ (v := μ 0 1) rfl rfl ?_
  refine p_icmp rfl (fun c => ?_) (fun c => ?_)
  · have h := h.1 c
    refine p_push (v := .int 1) rfl ?_
    refine p_goto rfl ?_
    refine p_loc (ls' := []) rfl ?_
    exact p_ri rfl (by decide) h
  · have h := h.2 c
    refine p_push (v := .int 0) rfl ?_
    refine p_loc (ls' := []) rfl ?_
    exact p_ri rfl (by decide) h
theorem B132_0 {ev : xV} {Q : Option Value → xM → Prop} {m : Nat} {Φ : (Nat → Nat → Int32) → xM} (hΦ : MLaw m Φ) {μ : Nat → Nat → Int32} {x1 : Int32} (h : (((μ 0 46) = (μ 0 1)) → Q (some (.int 0)) (Φ μ)) ∧ (¬ ((μ 0 46) = (μ 0 1)) → vp_in (μ 0 46) 160 ∧ (((μ 1 (μ 0 46).toNatClampNeg) < 97) → Q (some (.int 0)) (Φ μ)) ∧ (¬ ((μ 1 (μ 0 46).toNatClampNeg) < 97) → vp_in (μ 0 46) 160 ∧ (((μ 1 (μ 0 46).toNatClampNeg) ≤ 104) → vp_in x1 5 ∧ vp_in (μ 0 46) 160 ∧ vp_in ((10 * x1) + (μ 2 x1.toNatClampNeg)) 50 ∧ (∃ r μ', ev 133 [.ref m, .int 1] (Φ (U (U μ 4 (((10 * x1) + (μ 2 x1.toNatClampNeg)).toNatClampNeg) ((μ 1 (μ 0 46).toNatClampNeg) - 97)) 0 46 ((μ 0 46) + 1))) (some (.int r)) (Φ μ') ∧ wpE (xT 132) ev Q (86, [(2, .int ((10 * x1) + (μ 2 x1.toNatClampNeg))), (0, .ref m), (1, .int x1)], [.int r], Φ μ'))) ∧ (¬ ((μ 1 (μ 0 46).toNatClampNeg) ≤ 104) → Q (some (.int 0)) (Φ μ))))) : wpE (xT 132) ev Q (0, [(0, .ref m), (1, .int x1)], [], Φ μ) := by
  refine p_ald rfl rfl ?_
  refine pm_geti hΦ (v := μ 0 46) rfl rfl ?_
  refine p_ald rfl rfl ?_
  refine pm_geti hΦ (v := μ 0 1) rfl rfl ?_
  refine p_icmp rfl (fun c => ?_) (fun c => ?_)
  · have h := h.1 c
    refine p_loc (ls' := []) rfl ?_
    refine p_push (v := .int 0) rfl ?_
    exact p_ri rfl (by decide) h
  · have h := h.2 c
    refine p_ald rfl rfl ?_
    refine pm_getp hΦ rfl (c := 1) rfl (by decide) ?_
    refine p_ald rfl rfl ?_
    refine pm_geti hΦ (v := μ 0 46) rfl rfl ?_
    obtain ⟨g, h⟩ := h
    refine pm_aldi hΦ (c := 1) (n := 160) rfl (by decide) rfl rfl g rfl ?_
    refine p_push (v := .int 97) rfl ?_
    refine p_icmp rfl (fun c => ?_) (fun c => ?_)
    · have h := h.1 c
      refine p_loc (ls' := []) rfl ?_
      refine p_push (v := .int 0) rfl ?_
      exact p_ri rfl (by decide) h
    · have h := h.2 c
      refine p_ald rfl rfl ?_
      refine pm_getp hΦ rfl (c := 1) rfl (by decide) ?_
      refine p_ald rfl rfl ?_
      refine pm_geti hΦ (v := μ 0 46) rfl rfl ?_
      obtain ⟨g, h⟩ := h
      refine pm_aldi hΦ (c := 1) (n := 160) rfl (by decide) rfl rfl g rfl ?_
      refine p_push (v := .int 104) rfl ?_
      refine p_icmp rfl (fun c => ?_) (fun c => ?_)
      · have h := h.1 c
        refine p_push (v := .int 10) rfl ?_
        refine p_ild rfl rfl ?_
        refine p_bin rfl ?_
        refine p_ald rfl rfl ?_
        refine pm_getp hΦ rfl (c := 2) rfl (by decide) ?_
        refine p_ild rfl rfl ?_
        obtain ⟨g, h⟩ := h
        refine pm_aldi hΦ (c := 2) (n := 5) rfl (by decide) rfl rfl g rfl ?_
        refine p_bin rfl ?_
        refine p_ist (ls' := [(2, .int ((10 * x1) + (μ 2 x1.toNatClampNeg))), (0, .ref m), (1, .int x1)]) rfl (by decide) rfl ?_
        refine p_ald rfl rfl ?_
        refine pm_getp hΦ rfl (c := 4) rfl (by decide) ?_
        refine p_ild rfl rfl ?_
        refine p_ald rfl rfl ?_
        refine pm_getp hΦ rfl (c := 1) rfl (by decide) ?_
        refine p_ald rfl rfl ?_
        refine pm_geti hΦ (v := μ 0 46) rfl rfl ?_
        obtain ⟨g, h⟩ := h
        refine pm_aldi hΦ (c := 1) (n := 160) rfl (by decide) rfl rfl g rfl ?_
        refine p_push (v := .int 97) rfl ?_
        refine p_bin rfl ?_
        obtain ⟨g, h⟩ := h
        refine pm_asti hΦ (c := 4) (n := 50) rfl (by decide) rfl rfl g ?_
        refine p_ald rfl rfl ?_
        refine p_dup rfl rfl ?_
        refine pm_geti hΦ (v := μ 0 46) rfl rfl ?_
        refine p_push (v := .int 1) rfl ?_
        refine p_bin rfl ?_
        refine pm_puti hΦ rfl ?_
        refine p_ald rfl rfl ?_
        refine p_push (v := .int 1) rfl ?_
        obtain ⟨r, μ', he, h⟩ := h
        exact p_callV rfl (Nat.le_of_ble_eq_true rfl) rfl rfl (Nat.le_of_ble_eq_true rfl) (ml_kd hΦ) he h
      · have h := h.2 c
        refine p_loc (ls' := []) rfl ?_
        refine p_push (v := .int 0) rfl ?_
        exact p_ri rfl (by decide) h
theorem B132_86 {ev : xV} {Q : Option Value → xM → Prop} {m : Nat} {Φ : (Nat → Nat → Int32) → xM} (hΦ : MLaw m Φ) {μ : Nat → Nat → Int32} {x2 x1 s0 : Int32} (h : ((s0 = 0) → Q (some (.int 0)) (Φ μ)) ∧ (¬ (s0 = 0) → wpE (xT 132) ev Q (96, [(0, .ref m), (1, .int x1), (2, .int x2), (3, .int 0), (4, .int 0)], [], Φ μ))) : wpE (xT 132) ev Q (86, [(2, .int x2), (0, .ref m), (1, .int x1)], [.int s0], Φ μ) := by
  refine p_if rfl (fun c => ?_) (fun c => ?_)
  · have h := h.1 c
    refine p_push (v := .int 0) rfl ?_
    exact p_ri rfl (by decide) h
  · have h := h.2 c
    refine p_push (v := .int 0) rfl ?_
    refine p_ist (ls' := [(3, .int 0), (2, .int x2), (0, .ref m), (1, .int x1)]) rfl (by decide) rfl ?_
    refine p_push (v := .int 0) rfl ?_
    refine p_ist (ls' := [(4, .int 0), (3, .int 0), (2, .int x2), (0, .ref m), (1, .int x1)]) rfl (by decide) rfl ?_
    exact p_loc (ls' := [(0, .ref m), (1, .int x1), (2, .int x2), (3, .int 0), (4, .int 0)]) rfl h
theorem B132_96 {ev : xV} {Q : Option Value → xM → Prop} {m : Nat} {Φ : (Nat → Nat → Int32) → xM} (hΦ : MLaw m Φ) {μ : Nat → Nat → Int32} {x1 x2 x3 x4 : Int32} (h : ((3 ≤ x4) → vp_in x2 50 ∧ vp_in x1 5 ∧ vp_in x1 5 ∧ Q (some (.int 1)) (Φ (U (U μ 5 x2.toNatClampNeg x3) 2 x1.toNatClampNeg (((U μ 5 x2.toNatClampNeg x3) 2 x1.toNatClampNeg) + 1)))) ∧ (¬ (3 ≤ x4) → (∃ r μ', ev 133 [.ref m, .int 0] (Φ μ) (some (.int r)) (Φ μ') ∧ wpE (xT 132) ev Q (107, [(0, .ref m), (1, .int x1), (2, .int x2), (3, .int x3), (4, .int x4)], [.int r], Φ μ')))) : wpE (xT 132) ev Q (96, [(0, .ref m), (1, .int x1), (2, .int x2), (3, .int x3), (4, .int x4)], [], Φ μ) := by
  refine p_ild rfl rfl ?_
  refine p_push (v := .int 3) rfl ?_
  refine p_icmp rfl (fun c => ?_) (fun c => ?_)
  · have h := h.1 c
    refine p_loc (ls' := [(0, .ref m), (1, .int x1), (2, .int x2), (3, .int x3)]) rfl ?_
    refine p_ald rfl rfl ?_
    refine pm_getp hΦ rfl (c := 5) rfl (by decide) ?_
    refine p_ild rfl rfl ?_
    refine p_ild rfl rfl ?_
    obtain ⟨g, h⟩ := h
    refine pm_asti hΦ (c := 5) (n := 50) rfl (by decide) rfl rfl g ?_
    refine p_ald rfl rfl ?_
    refine pm_getp hΦ rfl (c := 2) rfl (by decide) ?_
    refine p_ild rfl rfl ?_
    refine p_dup2 rfl rfl rfl ?_
    obtain ⟨g, h⟩ := h
    refine pm_aldi hΦ (c := 2) (n := 5) rfl (by decide) rfl rfl g rfl ?_
    refine p_push (v := .int 1) rfl ?_
    refine p_bin rfl ?_
    obtain ⟨g, h⟩ := h
    refine pm_asti hΦ (c := 2) (n := 5) rfl (by decide) rfl rfl g ?_
    refine p_push (v := .int 1) rfl ?_
    exact p_ri rfl (by decide) h
  · have h := h.2 c
    refine p_ald rfl rfl ?_
    refine p_push (v := .int 0) rfl ?_
    obtain ⟨r, μ', he, h⟩ := h
    exact p_callV rfl (Nat.le_of_ble_eq_true rfl) rfl rfl (Nat.le_of_ble_eq_true rfl) (ml_kd hΦ) he h
theorem B132_107 {ev : xV} {Q : Option Value → xM → Prop} {m : Nat} {Φ : (Nat → Nat → Int32) → xM} (hΦ : MLaw m Φ) {μ : Nat → Nat → Int32} {x1 x2 x3 x4 s0 : Int32} (h : ((s0 = 0) → vp_in x2 50 ∧ vp_in x1 5 ∧ vp_in x1 5 ∧ Q (some (.int 1)) (Φ (U (U μ 5 x2.toNatClampNeg x3) 2 x1.toNatClampNeg (((U μ 5 x2.toNatClampNeg x3) 2 x1.toNatClampNeg) + 1)))) ∧ (¬ (s0 = 0) → vp_in (μ 0 46) 160 ∧ wpE (xT 132) ev Q (96, [(0, .ref m), (1, .int x1), (2, .int x2), (3, .int (((10 * x3) + (μ 1 (μ 0 46).toNatClampNeg)) - 48)), (4, .int (x4 + 1))], [], Φ (U μ 0 46 ((μ 0 46) + 1))))) : wpE (xT 132) ev Q (107, [(0, .ref m), (1, .int x1), (2, .int x2), (3, .int x3), (4, .int x4)], [.int s0], Φ μ) := by
  refine p_if rfl (fun c => ?_) (fun c => ?_)
  · have h := h.1 c
    refine p_loc (ls' := [(0, .ref m), (1, .int x1), (2, .int x2), (3, .int x3)]) rfl ?_
    refine p_ald rfl rfl ?_
    refine pm_getp hΦ rfl (c := 5) rfl (by decide) ?_
    refine p_ild rfl rfl ?_
    refine p_ild rfl rfl ?_
    obtain ⟨g, h⟩ := h
    refine pm_asti hΦ (c := 5) (n := 50) rfl (by decide) rfl rfl g ?_
    refine p_ald rfl rfl ?_
    refine pm_getp hΦ rfl (c := 2) rfl (by decide) ?_
    refine p_ild rfl rfl ?_
    refine p_dup2 rfl rfl rfl ?_
    obtain ⟨g, h⟩ := h
    refine pm_aldi hΦ (c := 2) (n := 5) rfl (by decide) rfl rfl g rfl ?_
    refine p_push (v := .int 1) rfl ?_
    refine p_bin rfl ?_
    obtain ⟨g, h⟩ := h
    refine pm_asti hΦ (c := 2) (n := 5) rfl (by decide) rfl rfl g ?_
    refine p_push (v := .int 1) rfl ?_
    exact p_ri rfl (by decide) h
  · have h := h.2 c
    refine p_push (v := .int 10) rfl ?_
    refine p_ild rfl rfl ?_
    refine p_bin rfl ?_
    refine p_ald rfl rfl ?_
    refine pm_getp hΦ rfl (c := 1) rfl (by decide) ?_
    refine p_ald rfl rfl ?_
    refine pm_geti hΦ (v := μ 0 46) rfl rfl ?_
    obtain ⟨g, h⟩ := h
    refine pm_aldi hΦ (c := 1) (n := 160) rfl (by decide) rfl rfl g rfl ?_
    refine p_bin rfl ?_
    refine p_push (v := .int 48) rfl ?_
    refine p_bin rfl ?_
    refine p_ist (ls' := [(3, .int (((10 * x3) + (μ 1 (μ 0 46).toNatClampNeg)) - 48)), (0, .ref m), (1, .int x1), (2, .int x2), (4, .int x4)]) rfl (by decide) rfl ?_
    refine p_ald rfl rfl ?_
    refine p_dup rfl rfl ?_
    refine pm_geti hΦ (v := μ 0 46) rfl rfl ?_
    refine p_push (v := .int 1) rfl ?_
    refine p_bin rfl ?_
    refine pm_puti hΦ rfl ?_
    refine p_iinc (y := x4 + 1) (ls' := [(4, .int (x4 + 1)), (3, .int (((10 * x3) + (μ 1 (μ 0 46).toNatClampNeg)) - 48)), (0, .ref m), (1, .int x1), (2, .int x2)]) rfl (by decide) rfl rfl rfl ?_
    refine p_goto rfl ?_
    exact p_loc (ls' := [(0, .ref m), (1, .int x1), (2, .int x2), (3, .int (((10 * x3) + (μ 1 (μ 0 46).toNatClampNeg)) - 48)), (4, .int (x4 + 1))]) rfl h
theorem B133_0 {ev : xV} {Q : Option Value → xM → Prop} {m : Nat} {Φ : (Nat → Nat → Int32) → xM} (hΦ : MLaw m Φ) {μ : Nat → Nat → Int32} {x1 : Int32} (h : (((μ 0 1) ≤ (μ 0 46)) → Q (some (.int 0)) (Φ μ)) ∧ (¬ ((μ 0 1) ≤ (μ 0 46)) → vp_in (μ 0 46) 160 ∧ (((μ 1 (μ 0 46).toNatClampNeg) < (48 + x1)) → Q (some (.int 0)) (Φ μ)) ∧ (¬ ((μ 1 (μ 0 46).toNatClampNeg) < (48 + x1)) → vp_in (μ 0 46) 160 ∧ ((57 < (μ 1 (μ 0 46).toNatClampNeg)) → Q (some (.int 0)) (Φ μ)) ∧ (¬ (57 < (μ 1 (μ 0 46).toNatClampNeg)) → Q (some (.int 1)) (Φ μ))))) : wpE (xT 133) ev Q (0, [(0, .ref m), (1, .int x1)], [], Φ μ) := by
  refine p_ald rfl rfl ?_
  refine pm_geti hΦ (v := μ 0 46) rfl rfl ?_
  refine p_ald rfl rfl ?_
  refine pm_geti hΦ (v := μ 0 1) rfl rfl ?_
  refine p_icmp rfl (fun c => ?_) (fun c => ?_)
  · have h := h.1 c
    refine p_loc (ls' := []) rfl ?_
    refine p_push (v := .int 0) rfl ?_
    exact p_ri rfl (by decide) h
  · have h := h.2 c
    refine p_ald rfl rfl ?_
    refine pm_getp hΦ rfl (c := 1) rfl (by decide) ?_
    refine p_ald rfl rfl ?_
    refine pm_geti hΦ (v := μ 0 46) rfl rfl ?_
    obtain ⟨g, h⟩ := h
    refine pm_aldi hΦ (c := 1) (n := 160) rfl (by decide) rfl rfl g rfl ?_
    refine p_push (v := .int 48) rfl ?_
    refine p_ild rfl rfl ?_
    refine p_bin rfl ?_
    refine p_icmp rfl (fun c => ?_) (fun c => ?_)
    · have h := h.1 c
      refine p_loc (ls' := []) rfl ?_
      refine p_push (v := .int 0) rfl ?_
      exact p_ri rfl (by decide) h
    · have h := h.2 c
      refine p_ald rfl rfl ?_
      refine pm_getp hΦ rfl (c := 1) rfl (by decide) ?_
      refine p_ald rfl rfl ?_
      refine pm_geti hΦ (v := μ 0 46) rfl rfl ?_
      obtain ⟨g, h⟩ := h
      refine pm_aldi hΦ (c := 1) (n := 160) rfl (by decide) rfl rfl g rfl ?_
      refine p_push (v := .int 57) rfl ?_
      refine p_icmp rfl (fun c => ?_) (fun c => ?_)
      · have h := h.1 c
        refine p_loc (ls' := []) rfl ?_
        refine p_push (v := .int 0) rfl ?_
        exact p_ri rfl (by decide) h
      · have h := h.2 c
        refine p_push (v := .int 1) rfl ?_
        refine p_goto rfl ?_
        refine p_loc (ls' := []) rfl ?_
        exact p_ri rfl (by decide) h
theorem B134_0 {ev : xV} {Q : Option Value → xM → Prop} {m : Nat} {Φ : (Nat → Nat → Int32) → xM} (hΦ : MLaw m Φ) {μ : Nat → Nat → Int32} {x1 x2 : Int32} (h : (∃ r μ', ev 135 [.ref m, .int x1] (Φ μ) (some (.int r)) (Φ μ') ∧ wpE (xT 134) ev Q (5, [(0, .ref m), (1, .int x1), (2, .int x2)], [.int r], Φ μ'))) : wpE (xT 134) ev Q (0, [(0, .ref m), (1, .int x1), (2, .int x2)], [], Φ μ) := by
  refine p_ald rfl rfl ?_
  refine p_ild rfl rfl ?_
  obtain ⟨r, μ', he, h⟩ := h
  exact p_callV rfl (Nat.le_of_ble_eq_true rfl) rfl rfl (Nat.le_of_ble_eq_true rfl) (ml_kd hΦ) he h
theorem B134_5 {ev : xV} {Q : Option Value → xM → Prop} {m : Nat} {Φ : (Nat → Nat → Int32) → xM} (hΦ : MLaw m Φ) {μ : Nat → Nat → Int32} {x1 x2 s0 : Int32} (h : ((s0 = 0) → Q (some (.int ((-2)))) (Φ μ)) ∧ (¬ (s0 = 0) → (∃ r μ', ev 129 [.ref m, .int x2, .int 0, .int 2] (Φ μ) (some (.int r)) (Φ μ') ∧ wpE (xT 134) ev Q (15, [(0, .ref m), (1, .int x1), (2, .int x2)], [.int r], Φ μ')))) : wpE (xT 134) ev Q (5, [(0, .ref m), (1, .int x1), (2, .int x2)], [.int s0], Φ μ) := by
  refine p_if rfl (fun c => ?_) (fun c => ?_)
  · have h := h.1 c
    refine p_loc (ls' := []) rfl ?_
    refine p_push (v := .int (-2)) rfl ?_
    exact p_ri rfl trivial h
  · have h := h.2 c
    refine p_ald rfl rfl ?_
    refine p_ild rfl rfl ?_
    refine p_push (v := .int 0) rfl ?_
    refine p_push (v := .int 2) rfl ?_
    obtain ⟨r, μ', he, h⟩ := h
    exact p_callV rfl (Nat.le_of_ble_eq_true rfl) rfl rfl (Nat.le_of_ble_eq_true rfl) (ml_kd hΦ) he h
theorem B134_15 {ev : xV} {Q : Option Value → xM → Prop} {m : Nat} {Φ : (Nat → Nat → Int32) → xM} (hΦ : MLaw m Φ) {μ : Nat → Nat → Int32} {x1 x2 s0 : Int32} (h : ((s0 = 0) → Q (some (.int ((-2)))) (Φ μ)) ∧ (¬ (s0 = 0) → ((x2 = 0) → vp_in x1 5 ∧ Q (some (.int (μ 3 x1.toNatClampNeg))) (Φ μ)) ∧ (¬ (x2 = 0) → ((x2 = 1) → vp_in x1 5 ∧ Q (some (.int (μ 2 x1.toNatClampNeg))) (Φ μ)) ∧ (¬ (x2 = 1) → vp_in x1 5 ∧ (((μ 6 x1.toNatClampNeg) = 0) → Q (some (.int 0)) (Φ μ)) ∧ (¬ ((μ 6 x1.toNatClampNeg) = 0) → Q (some (.int 1)) (Φ μ)))))) : wpE (xT 134) ev Q (15, [(0, .ref m), (1, .int x1), (2, .int x2)], [.int s0], Φ μ) := by
  refine p_if rfl (fun c => ?_) (fun c => ?_)
  · have h := h.1 c
    refine p_loc (ls' := []) rfl ?_
    refine p_push (v := .int (-2)) rfl ?_
    exact p_ri rfl trivial h
  · have h := h.2 c
    refine p_ild rfl rfl ?_
    refine p_if rfl (fun c => ?_) (fun c => ?_)
    · have h := h.1 c
      refine p_ald rfl rfl ?_
      refine pm_getp hΦ rfl (c := 3) rfl (by decide) ?_
      refine p_ild rfl rfl ?_
      obtain ⟨g, h⟩ := h
      refine pm_aldi hΦ (c := 3) (n := 5) rfl (by decide) rfl rfl g rfl ?_
      refine p_goto rfl ?_
      refine p_loc (ls' := []) rfl ?_
      exact p_ri rfl trivial h
    · have h := h.2 c
      refine p_ild rfl rfl ?_
      refine p_push (v := .int 1) rfl ?_
      refine p_icmp rfl (fun c => ?_) (fun c => ?_)
      · have h := h.1 c
        refine p_ald rfl rfl ?_
        refine pm_getp hΦ rfl (c := 2) rfl (by decide) ?_
        refine p_ild rfl rfl ?_
        obtain ⟨g, h⟩ := h
        refine pm_aldi hΦ (c := 2) (n := 5) rfl (by decide) rfl rfl g rfl ?_
        refine p_goto rfl ?_
        refine p_loc (ls' := []) rfl ?_
        exact p_ri rfl trivial h
      · have h := h.2 c
        refine p_ald rfl rfl ?_
        refine pm_getp hΦ rfl (c := 6) rfl (by decide) ?_
        refine p_ild rfl rfl ?_
        obtain ⟨g, h⟩ := h
        refine pm_aldi hΦ (c := 6) (n := 5) rfl (by decide) rfl rfl g rfl ?_
        refine p_if rfl (fun c => ?_) (fun c => ?_)
        · have h := h.1 c
          refine p_push (v := .int 0) rfl ?_
          refine p_loc (ls' := []) rfl ?_
          exact p_ri rfl trivial h
        · have h := h.2 c
          refine p_push (v := .int 1) rfl ?_
          refine p_goto rfl ?_
          refine p_loc (ls' := []) rfl ?_
          exact p_ri rfl trivial h
theorem B135_0 {ev : xV} {Q : Option Value → xM → Prop} {m : Nat} {Φ : (Nat → Nat → Int32) → xM} (hΦ : MLaw m Φ) {μ : Nat → Nat → Int32} {x1 : Int32} (h : (∃ r μ', ev 129 [.ref m, .int x1, .int 0, .int ((μ 0 2) - 1)] (Φ μ) (some (.int r)) (Φ μ') ∧ wpE (xT 135) ev Q (12, [(0, .ref m), (1, .int x1)], [.int r], Φ μ'))) : wpE (xT 135) ev Q (0, [(0, .ref m), (1, .int x1)], [], Φ μ) := by
  refine p_ald rfl rfl ?_
  refine p_ild rfl rfl ?_
  refine p_push (v := .int 0) rfl ?_
  refine p_ald rfl rfl ?_
  refine pm_geti hΦ (v := μ 0 2) rfl rfl ?_
  refine p_push (v := .int 1) rfl ?_
  refine p_bin rfl ?_
  obtain ⟨r, μ', he, h⟩ := h
  exact p_callV rfl (Nat.le_of_ble_eq_true rfl) rfl rfl (Nat.le_of_ble_eq_true rfl) (ml_kd hΦ) he h
theorem B135_12 {ev : xV} {Q : Option Value → xM → Prop} {m : Nat} {Φ : (Nat → Nat → Int32) → xM} (hΦ : MLaw m Φ) {μ : Nat → Nat → Int32} {x1 s0 : Int32} (h : ((s0 = 0 ∨ s0 = 1) ∧ Q (some (.int s0)) (Φ μ))) : wpE (xT 135) ev Q (12, [(0, .ref m), (1, .int x1)], [.int s0], Φ μ) := by
  exact p_ri rfl h.1 h.2
theorem B136_0 {ev : xV} {Q : Option Value → xM → Prop} {m : Nat} {Φ : (Nat → Nat → Int32) → xM} (hΦ : MLaw m Φ) {μ : Nat → Nat → Int32} {x1 x2 x3 : Int32} (h : (∃ r μ', ev 135 [.ref m, .int x1] (Φ μ) (some (.int r)) (Φ μ') ∧ wpE (xT 136) ev Q (5, [(0, .ref m), (1, .int x1), (2, .int x2), (3, .int x3)], [.int r], Φ μ'))) : wpE (xT 136) ev Q (0, [(0, .ref m), (1, .int x1), (2, .int x2), (3, .int x3)], [], Φ μ) := by
  refine p_ald rfl rfl ?_
  refine p_ild rfl rfl ?_
  obtain ⟨r, μ', he, h⟩ := h
  exact p_callV rfl (Nat.le_of_ble_eq_true rfl) rfl rfl (Nat.le_of_ble_eq_true rfl) (ml_kd hΦ) he h
theorem B136_5 {ev : xV} {Q : Option Value → xM → Prop} {m : Nat} {Φ : (Nat → Nat → Int32) → xM} (hΦ : MLaw m Φ) {μ : Nat → Nat → Int32} {x1 x2 x3 s0 : Int32} (h : ((s0 = 0) → Q (some (.int ((-2)))) (Φ μ)) ∧ (¬ (s0 = 0) → vp_in x1 5 ∧ (∃ r μ', ev 129 [.ref m, .int x2, .int 0, .int ((μ 2 x1.toNatClampNeg) - 1)] (Φ μ) (some (.int r)) (Φ μ') ∧ wpE (xT 136) ev Q (22, [(0, .ref m), (1, .int x1), (2, .int x2), (3, .int x3)], [.int r], Φ μ')))) : wpE (xT 136) ev Q (5, [(0, .ref m), (1, .int x1), (2, .int x2), (3, .int x3)], [.int s0], Φ μ) := by
  refine p_if rfl (fun c => ?_) (fun c => ?_)
  · have h := h.1 c
    refine p_loc (ls' := []) rfl ?_
    refine p_push (v := .int (-2)) rfl ?_
    exact p_ri rfl trivial h
  · have h := h.2 c
    refine p_ald rfl rfl ?_
    refine p_ild rfl rfl ?_
    refine p_push (v := .int 0) rfl ?_
    refine p_ald rfl rfl ?_
    refine pm_getp hΦ rfl (c := 2) rfl (by decide) ?_
    refine p_ild rfl rfl ?_
    obtain ⟨g, h⟩ := h
    refine pm_aldi hΦ (c := 2) (n := 5) rfl (by decide) rfl rfl g rfl ?_
    refine p_push (v := .int 1) rfl ?_
    refine p_bin rfl ?_
    obtain ⟨r, μ', he, h⟩ := h
    exact p_callV rfl (Nat.le_of_ble_eq_true rfl) rfl rfl (Nat.le_of_ble_eq_true rfl) (ml_kd hΦ) he h
theorem B136_22 {ev : xV} {Q : Option Value → xM → Prop} {m : Nat} {Φ : (Nat → Nat → Int32) → xM} (hΦ : MLaw m Φ) {μ : Nat → Nat → Int32} {x1 x2 x3 s0 : Int32} (h : ((s0 = 0) → Q (some (.int ((-2)))) (Φ μ)) ∧ (¬ (s0 = 0) → (∃ r μ', ev 129 [.ref m, .int x3, .int 0, .int 2] (Φ μ) (some (.int r)) (Φ μ') ∧ wpE (xT 136) ev Q (32, [(0, .ref m), (1, .int x1), (2, .int x2), (3, .int x3)], [.int r], Φ μ')))) : wpE (xT 136) ev Q (22, [(0, .ref m), (1, .int x1), (2, .int x2), (3, .int x3)], [.int s0], Φ μ) := by
  refine p_if rfl (fun c => ?_) (fun c => ?_)
  · have h := h.1 c
    refine p_loc (ls' := []) rfl ?_
    refine p_push (v := .int (-2)) rfl ?_
    exact p_ri rfl trivial h
  · have h := h.2 c
    refine p_ald rfl rfl ?_
    refine p_ild rfl rfl ?_
    refine p_push (v := .int 0) rfl ?_
    refine p_push (v := .int 2) rfl ?_
    obtain ⟨r, μ', he, h⟩ := h
    exact p_callV rfl (Nat.le_of_ble_eq_true rfl) rfl rfl (Nat.le_of_ble_eq_true rfl) (ml_kd hΦ) he h
theorem B136_32 {ev : xV} {Q : Option Value → xM → Prop} {m : Nat} {Φ : (Nat → Nat → Int32) → xM} (hΦ : MLaw m Φ) {μ : Nat → Nat → Int32} {x1 x2 x3 s0 : Int32} (h : ((s0 = 0) → Q (some (.int ((-2)))) (Φ μ)) ∧ (¬ (s0 = 0) → ((x3 = 0) → vp_in ((10 * x1) + x2) 50 ∧ Q (some (.int (μ 4 ((10 * x1) + x2).toNatClampNeg))) (Φ μ)) ∧ (¬ (x3 = 0) → ((x3 = 1) → vp_in ((10 * x1) + x2) 50 ∧ Q (some (.int (μ 5 ((10 * x1) + x2).toNatClampNeg))) (Φ μ)) ∧ (¬ (x3 = 1) → (∃ r μ', ev 137 [.ref m, .int x1, .int x2] (Φ μ) (some (.int r)) (Φ μ') ∧ wpE (xT 136) ev Q (81, [(0, .ref m), (1, .int x1), (2, .int x2), (3, .int x3)], [.int r], Φ μ')))))) : wpE (xT 136) ev Q (32, [(0, .ref m), (1, .int x1), (2, .int x2), (3, .int x3)], [.int s0], Φ μ) := by
  refine p_if rfl (fun c => ?_) (fun c => ?_)
  · have h := h.1 c
    refine p_loc (ls' := []) rfl ?_
    refine p_push (v := .int (-2)) rfl ?_
    exact p_ri rfl trivial h
  · have h := h.2 c
    refine p_ild rfl rfl ?_
    refine p_if rfl (fun c => ?_) (fun c => ?_)
    · have h := h.1 c
      refine p_ald rfl rfl ?_
      refine pm_getp hΦ rfl (c := 4) rfl (by decide) ?_
      refine p_push (v := .int 10) rfl ?_
      refine p_ild rfl rfl ?_
      refine p_bin rfl ?_
      refine p_ild rfl rfl ?_
      refine p_bin rfl ?_
      obtain ⟨g, h⟩ := h
      refine pm_aldi hΦ (c := 4) (n := 50) rfl (by decide) rfl rfl g rfl ?_
      refine p_goto rfl ?_
      refine p_loc (ls' := []) rfl ?_
      exact p_ri rfl trivial h
    · have h := h.2 c
      refine p_ild rfl rfl ?_
      refine p_push (v := .int 1) rfl ?_
      refine p_icmp rfl (fun c => ?_) (fun c => ?_)
      · have h := h.1 c
        refine p_ald rfl rfl ?_
        refine pm_getp hΦ rfl (c := 5) rfl (by decide) ?_
        refine p_push (v := .int 10) rfl ?_
        refine p_ild rfl rfl ?_
        refine p_bin rfl ?_
        refine p_ild rfl rfl ?_
        refine p_bin rfl ?_
        obtain ⟨g, h⟩ := h
        refine pm_aldi hΦ (c := 5) (n := 50) rfl (by decide) rfl rfl g rfl ?_
        refine p_goto rfl ?_
        refine p_loc (ls' := []) rfl ?_
        exact p_ri rfl trivial h
      · have h := h.2 c
        refine p_ald rfl rfl ?_
        refine p_ild rfl rfl ?_
        refine p_ild rfl rfl ?_
        obtain ⟨r, μ', he, h⟩ := h
        exact p_callV rfl (Nat.le_of_ble_eq_true rfl) rfl rfl (Nat.le_of_ble_eq_true rfl) (ml_kd hΦ) he h
theorem B136_81 {ev : xV} {Q : Option Value → xM → Prop} {m : Nat} {Φ : (Nat → Nat → Int32) → xM} (hΦ : MLaw m Φ) {μ : Nat → Nat → Int32} {x1 x2 x3 s0 : Int32} (h : Q (some (.int s0)) (Φ μ)) : wpE (xT 136) ev Q (81, [(0, .ref m), (1, .int x1), (2, .int x2), (3, .int x3)], [.int s0], Φ μ) := by
  exact p_ri rfl trivial h
theorem B137_0 {ev : xV} {Q : Option Value → xM → Prop} {m : Nat} {Φ : (Nat → Nat → Int32) → xM} (hΦ : MLaw m Φ) {μ : Nat → Nat → Int32} {x1 x2 : Int32} (h : wpE (xT 137) ev Q (5, [(0, .ref m), (1, .int x1), (2, .int x2), (3, .int 0), (4, .int 0)], [], Φ μ)) : wpE (xT 137) ev Q (0, [(0, .ref m), (1, .int x1), (2, .int x2)], [], Φ μ) := by
  refine p_push (v := .int 0) rfl ?_
  refine p_ist (ls' := [(3, .int 0), (0, .ref m), (1, .int x1), (2, .int x2)]) rfl (by decide) rfl ?_
  refine p_push (v := .int 0) rfl ?_
  refine p_ist (ls' := [(4, .int 0), (3, .int 0), (0, .ref m), (1, .int x1), (2, .int x2)]) rfl (by decide) rfl ?_
  exact p_loc (ls' := [(0, .ref m), (1, .int x1), (2, .int x2), (3, .int 0), (4, .int 0)]) rfl h
theorem B137_5 {ev : xV} {Q : Option Value → xM → Prop} {m : Nat} {Φ : (Nat → Nat → Int32) → xM} (hΦ : MLaw m Φ) {μ : Nat → Nat → Int32} {x1 x2 x3 x4 : Int32} (h : ((x2 ≤ x4) → vp_in ((10 * x1) + x2) 50 ∧ Q (some (.int (x3 + (((μ 5 ((10 * x1) + x2).toNatClampNeg) - 1) / 2)))) (Φ μ)) ∧ (¬ (x2 ≤ x4) → vp_in ((10 * x1) + x4) 50 ∧ wpE (xT 137) ev Q (5, [(0, .ref m), (1, .int x1), (2, .int x2), (3, .int (x3 + (μ 5 ((10 * x1) + x4).toNatClampNeg))), (4, .int (x4 + 1))], [], Φ μ))) : wpE (xT 137) ev Q (5, [(0, .ref m), (1, .int x1), (2, .int x2), (3, .int x3), (4, .int x4)], [], Φ μ) := by
  refine p_ild rfl rfl ?_
  refine p_ild rfl rfl ?_
  refine p_icmp rfl (fun c => ?_) (fun c => ?_)
  · have h := h.1 c
    refine p_ild rfl rfl ?_
    refine p_ald rfl rfl ?_
    refine pm_getp hΦ rfl (c := 5) rfl (by decide) ?_
    refine p_push (v := .int 10) rfl ?_
    refine p_ild rfl rfl ?_
    refine p_bin rfl ?_
    refine p_ild rfl rfl ?_
    refine p_bin rfl ?_
    obtain ⟨g, h⟩ := h
    refine pm_aldi hΦ (c := 5) (n := 50) rfl (by decide) rfl rfl g rfl ?_
    refine p_push (v := .int 1) rfl ?_
    refine p_bin rfl ?_
    refine p_push (v := .int 2) rfl ?_
    refine p_div rfl (by decide) ?_
    refine p_bin rfl ?_
    exact p_ri rfl trivial h
  · have h := h.2 c
    refine p_ild rfl rfl ?_
    refine p_ald rfl rfl ?_
    refine pm_getp hΦ rfl (c := 5) rfl (by decide) ?_
    refine p_push (v := .int 10) rfl ?_
    refine p_ild rfl rfl ?_
    refine p_bin rfl ?_
    refine p_ild rfl rfl ?_
    refine p_bin rfl ?_
    obtain ⟨g, h⟩ := h
    refine pm_aldi hΦ (c := 5) (n := 50) rfl (by decide) rfl rfl g rfl ?_
    refine p_bin rfl ?_
    refine p_ist (ls' := [(3, .int (x3 + (μ 5 ((10 * x1) + x4).toNatClampNeg))), (0, .ref m), (1, .int x1), (2, .int x2), (4, .int x4)]) rfl (by decide) rfl ?_
    refine p_iinc (y := x4 + 1) (ls' := [(4, .int (x4 + 1)), (3, .int (x3 + (μ 5 ((10 * x1) + x4).toNatClampNeg))), (0, .ref m), (1, .int x1), (2, .int x2)]) rfl (by decide) rfl rfl rfl ?_
    refine p_goto rfl ?_
    exact p_loc (ls' := [(0, .ref m), (1, .int x1), (2, .int x2), (3, .int (x3 + (μ 5 ((10 * x1) + x4).toNatClampNeg))), (4, .int (x4 + 1))]) rfl h
theorem B138_0 {ev : xV} {Q : Option Value → xM → Prop} {m : Nat} {Φ : (Nat → Nat → Int32) → xM} (hΦ : MLaw m Φ) {μ : Nat → Nat → Int32} {x1 x2 : Int32} (h : (∃ r μ', ev 135 [.ref m, .int x1] (Φ μ) (some (.int r)) (Φ μ') ∧ wpE (xT 138) ev Q (5, [(0, .ref m), (1, .int x1), (2, .int x2)], [.int r], Φ μ'))) : wpE (xT 138) ev Q (0, [(0, .ref m), (1, .int x1), (2, .int x2)], [], Φ μ) := by
  refine p_ald rfl rfl ?_
  refine p_ild rfl rfl ?_
  obtain ⟨r, μ', he, h⟩ := h
  exact p_callV rfl (Nat.le_of_ble_eq_true rfl) rfl rfl (Nat.le_of_ble_eq_true rfl) (ml_kd hΦ) he h
theorem B138_5 {ev : xV} {Q : Option Value → xM → Prop} {m : Nat} {Φ : (Nat → Nat → Int32) → xM} (hΦ : MLaw m Φ) {μ : Nat → Nat → Int32} {x1 x2 s0 : Int32} (h : ((s0 = 0) → Q (some (.int ((-2)))) (Φ μ)) ∧ (¬ (s0 = 0) → ((x2 < 0) → Q (some (.int ((-2)))) (Φ μ)) ∧ (¬ (x2 < 0) → (∃ r μ', ev 139 [.ref m, .int x1, .int x2] (Φ μ) (some (.int r)) (Φ μ') ∧ wpE (xT 138) ev Q (18, [(0, .ref m), (1, .int x1), (2, .int x2)], [.int r], Φ μ'))))) : wpE (xT 138) ev Q (5, [(0, .ref m), (1, .int x1), (2, .int x2)], [.int s0], Φ μ) := by
  refine p_if rfl (fun c => ?_) (fun c => ?_)
  · have h := h.1 c
    refine p_loc (ls' := []) rfl ?_
    refine p_push (v := .int (-2)) rfl ?_
    exact p_ri rfl trivial h
  · have h := h.2 c
    refine p_ild rfl rfl ?_
    refine p_if rfl (fun c => ?_) (fun c => ?_)
    · have h := h.1 c
      refine p_loc (ls' := []) rfl ?_
      refine p_push (v := .int (-2)) rfl ?_
      exact p_ri rfl trivial h
    · have h := h.2 c
      refine p_ald rfl rfl ?_
      refine p_ild rfl rfl ?_
      refine p_ild rfl rfl ?_
      obtain ⟨r, μ', he, h⟩ := h
      exact p_callV rfl (Nat.le_of_ble_eq_true rfl) rfl rfl (Nat.le_of_ble_eq_true rfl) (ml_kd hΦ) he h
theorem B138_18 {ev : xV} {Q : Option Value → xM → Prop} {m : Nat} {Φ : (Nat → Nat → Int32) → xM} (hΦ : MLaw m Φ) {μ : Nat → Nat → Int32} {x1 x2 s0 : Int32} (h : Q (some (.int s0)) (Φ μ)) : wpE (xT 138) ev Q (18, [(0, .ref m), (1, .int x1), (2, .int x2)], [.int s0], Φ μ) := by
  refine p_goto rfl ?_
  refine p_loc (ls' := []) rfl ?_
  exact p_ri rfl trivial h
theorem B139_0 {ev : xV} {Q : Option Value → xM → Prop} {m : Nat} {Φ : (Nat → Nat → Int32) → xM} (hΦ : MLaw m Φ) {μ : Nat → Nat → Int32} {x1 x2 : Int32} (h : vp_in x1 5 ∧ (¬ (μ 3 x1.toNatClampNeg) = 0) ∧ wpE (xT 139) ev Q (12, [(0, .ref m), (1, .int x1), (3, .int (x2 - x2 / (μ 3 x1.toNatClampNeg) * (μ 3 x1.toNatClampNeg))), (4, .int 0)], [], Φ μ)) : wpE (xT 139) ev Q (0, [(0, .ref m), (1, .int x1), (2, .int x2)], [], Φ μ) := by
  refine p_ild rfl rfl ?_
  refine p_ald rfl rfl ?_
  refine pm_getp hΦ rfl (c := 3) rfl (by decide) ?_
  refine p_ild rfl rfl ?_
  obtain ⟨g, h⟩ := h
  refine pm_aldi hΦ (c := 3) (n := 5) rfl (by decide) rfl rfl g rfl ?_
  obtain ⟨g, h⟩ := h
  refine p_div rfl g ?_
  refine p_ist (ls' := [(3, .int (x2 - x2 / (μ 3 x1.toNatClampNeg) * (μ 3 x1.toNatClampNeg))), (0, .ref m), (1, .int x1), (2, .int x2)]) rfl (by decide) rfl ?_
  refine p_push (v := .int 0) rfl ?_
  refine p_ist (ls' := [(4, .int 0), (3, .int (x2 - x2 / (μ 3 x1.toNatClampNeg) * (μ 3 x1.toNatClampNeg))), (0, .ref m), (1, .int x1), (2, .int x2)]) rfl (by decide) rfl ?_
  exact p_loc (ls' := [(0, .ref m), (1, .int x1), (3, .int (x2 - x2 / (μ 3 x1.toNatClampNeg) * (μ 3 x1.toNatClampNeg))), (4, .int 0)]) rfl h
theorem B139_12 {ev : xV} {Q : Option Value → xM → Prop} {m : Nat} {Φ : (Nat → Nat → Int32) → xM} (hΦ : MLaw m Φ) {μ : Nat → Nat → Int32} {x1 x3 x4 : Int32} (h : vp_in x1 5 ∧ (((μ 2 x1.toNatClampNeg) ≤ x4) → vp_in x1 5 ∧ wpE (xT 139) ev Q (83, [(0, .ref m), (1, .int x1), (3, .int x3), (4, .int ((μ 2 x1.toNatClampNeg) - 2))], [], Φ μ)) ∧ (¬ ((μ 2 x1.toNatClampNeg) ≤ x4) → vp_in ((10 * x1) + x4) 50 ∧ (((μ 5 ((10 * x1) + x4).toNatClampNeg) ≤ x3) → vp_in ((10 * x1) + x4) 50 ∧ wpE (xT 139) ev Q (12, [(0, .ref m), (1, .int x1), (3, .int (x3 - (μ 5 ((10 * x1) + x4).toNatClampNeg))), (4, .int (x4 + 1))], [], Φ μ)) ∧ (¬ ((μ 5 ((10 * x1) + x4).toNatClampNeg) ≤ x3) → vp_in ((10 * x1) + x4) 50 ∧ Q (some (.int (μ 4 ((10 * x1) + x4).toNatClampNeg))) (Φ μ)))) : wpE (xT 139) ev Q (12, [(0, .ref m), (1, .int x1), (3, .int x3), (4, .int x4)], [], Φ μ) := by
  refine p_ild rfl rfl ?_
  refine p_ald rfl rfl ?_
  refine pm_getp hΦ rfl (c := 2) rfl (by decide) ?_
  refine p_ild rfl rfl ?_
  obtain ⟨g, h⟩ := h
  refine pm_aldi hΦ (c := 2) (n := 5) rfl (by decide) rfl rfl g rfl ?_
  refine p_icmp rfl (fun c => ?_) (fun c => ?_)
  · have h := h.1 c
    refine p_ald rfl rfl ?_
    refine pm_getp hΦ rfl (c := 2) rfl (by decide) ?_
    refine p_ild rfl rfl ?_
    obtain ⟨g, h⟩ := h
    refine pm_aldi hΦ (c := 2) (n := 5) rfl (by decide) rfl rfl g rfl ?_
    refine p_push (v := .int 2) rfl ?_
    refine p_bin rfl ?_
    refine p_ist (ls' := [(4, .int ((μ 2 x1.toNatClampNeg) - 2)), (0, .ref m), (1, .int x1), (3, .int x3)]) rfl (by decide) rfl ?_
    exact p_loc (ls' := [(0, .ref m), (1, .int x1), (3, .int x3), (4, .int ((μ 2 x1.toNatClampNeg) - 2))]) rfl h
  · have h := h.2 c
    refine p_ild rfl rfl ?_
    refine p_ald rfl rfl ?_
    refine pm_getp hΦ rfl (c := 5) rfl (by decide) ?_
    refine p_push (v := .int 10) rfl ?_
    refine p_ild rfl rfl ?_
    refine p_bin rfl ?_
    refine p_ild rfl rfl ?_
    refine p_bin rfl ?_
    obtain ⟨g, h⟩ := h
    refine pm_aldi hΦ (c := 5) (n := 50) rfl (by decide) rfl rfl g rfl ?_
    refine p_icmp rfl (fun c => ?_) (fun c => ?_)
    · have h := h.1 c
      refine p_ild rfl rfl ?_
      refine p_ald rfl rfl ?_
      refine pm_getp hΦ rfl (c := 5) rfl (by decide) ?_
      refine p_push (v := .int 10) rfl ?_
      refine p_ild rfl rfl ?_
      refine p_bin rfl ?_
      refine p_ild rfl rfl ?_
      refine p_bin rfl ?_
      obtain ⟨g, h⟩ := h
      refine pm_aldi hΦ (c := 5) (n := 50) rfl (by decide) rfl rfl g rfl ?_
      refine p_bin rfl ?_
      refine p_ist (ls' := [(3, .int (x3 - (μ 5 ((10 * x1) + x4).toNatClampNeg))), (0, .ref m), (1, .int x1), (4, .int x4)]) rfl (by decide) rfl ?_
      refine p_iinc (y := x4 + 1) (ls' := [(4, .int (x4 + 1)), (3, .int (x3 - (μ 5 ((10 * x1) + x4).toNatClampNeg))), (0, .ref m), (1, .int x1)]) rfl (by decide) rfl rfl rfl ?_
      refine p_goto rfl ?_
      exact p_loc (ls' := [(0, .ref m), (1, .int x1), (3, .int (x3 - (μ 5 ((10 * x1) + x4).toNatClampNeg))), (4, .int (x4 + 1))]) rfl h
    · have h := h.2 c
      refine p_ald rfl rfl ?_
      refine pm_getp hΦ rfl (c := 4) rfl (by decide) ?_
      refine p_push (v := .int 10) rfl ?_
      refine p_ild rfl rfl ?_
      refine p_bin rfl ?_
      refine p_ild rfl rfl ?_
      refine p_bin rfl ?_
      obtain ⟨g, h⟩ := h
      refine pm_aldi hΦ (c := 4) (n := 50) rfl (by decide) rfl rfl g rfl ?_
      exact p_ri rfl trivial h
theorem B139_83 {ev : xV} {Q : Option Value → xM → Prop} {m : Nat} {Φ : (Nat → Nat → Int32) → xM} (hΦ : MLaw m Φ) {μ : Nat → Nat → Int32} {x1 x3 x4 : Int32} (h : ((x4 ≤ 0) → Q (some (.int ((-1)))) (Φ μ)) ∧ (¬ (x4 ≤ 0) → vp_in ((10 * x1) + x4) 50 ∧ (((μ 5 ((10 * x1) + x4).toNatClampNeg) ≤ x3) → vp_in ((10 * x1) + x4) 50 ∧ wpE (xT 139) ev Q (83, [(0, .ref m), (1, .int x1), (3, .int (x3 - (μ 5 ((10 * x1) + x4).toNatClampNeg))), (4, .int (x4 + (-1)))], [], Φ μ)) ∧ (¬ ((μ 5 ((10 * x1) + x4).toNatClampNeg) ≤ x3) → vp_in ((10 * x1) + x4) 50 ∧ Q (some (.int (μ 4 ((10 * x1) + x4).toNatClampNeg))) (Φ μ)))) : wpE (xT 139) ev Q (83, [(0, .ref m), (1, .int x1), (3, .int x3), (4, .int x4)], [], Φ μ) := by
  refine p_ild rfl rfl ?_
  refine p_if rfl (fun c => ?_) (fun c => ?_)
  · have h := h.1 c
    refine p_push (v := .int (-1)) rfl ?_
    exact p_ri rfl trivial h
  · have h := h.2 c
    refine p_ild rfl rfl ?_
    refine p_ald rfl rfl ?_
    refine pm_getp hΦ rfl (c := 5) rfl (by decide) ?_
    refine p_push (v := .int 10) rfl ?_
    refine p_ild rfl rfl ?_
    refine p_bin rfl ?_
    refine p_ild rfl rfl ?_
    refine p_bin rfl ?_
    obtain ⟨g, h⟩ := h
    refine pm_aldi hΦ (c := 5) (n := 50) rfl (by decide) rfl rfl g rfl ?_
    refine p_icmp rfl (fun c => ?_) (fun c => ?_)
    · have h := h.1 c
      refine p_ild rfl rfl ?_
      refine p_ald rfl rfl ?_
      refine pm_getp hΦ rfl (c := 5) rfl (by decide) ?_
      refine p_push (v := .int 10) rfl ?_
      refine p_ild rfl rfl ?_
      refine p_bin rfl ?_
      refine p_ild rfl rfl ?_
      refine p_bin rfl ?_
      obtain ⟨g, h⟩ := h
      refine pm_aldi hΦ (c := 5) (n := 50) rfl (by decide) rfl rfl g rfl ?_
      refine p_bin rfl ?_
      refine p_ist (ls' := [(3, .int (x3 - (μ 5 ((10 * x1) + x4).toNatClampNeg))), (0, .ref m), (1, .int x1), (4, .int x4)]) rfl (by decide) rfl ?_
      refine p_iinc (y := x4 + (-1)) (ls' := [(4, .int (x4 + (-1))), (3, .int (x3 - (μ 5 ((10 * x1) + x4).toNatClampNeg))), (0, .ref m), (1, .int x1)]) rfl (by decide) rfl rfl rfl ?_
      refine p_goto rfl ?_
      exact p_loc (ls' := [(0, .ref m), (1, .int x1), (3, .int (x3 - (μ 5 ((10 * x1) + x4).toNatClampNeg))), (4, .int (x4 + (-1)))]) rfl h
    · have h := h.2 c
      refine p_ald rfl rfl ?_
      refine pm_getp hΦ rfl (c := 4) rfl (by decide) ?_
      refine p_push (v := .int 10) rfl ?_
      refine p_ild rfl rfl ?_
      refine p_bin rfl ?_
      refine p_ild rfl rfl ?_
      refine p_bin rfl ?_
      obtain ⟨g, h⟩ := h
      refine pm_aldi hΦ (c := 4) (n := 50) rfl (by decide) rfl rfl g rfl ?_
      exact p_ri rfl trivial h
