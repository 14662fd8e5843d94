theorem B72_0 {ev : xV} {Q : Option Value → xM → Prop} {sz sl : Nat} {K L : Nat → Nat} {κ : Nat → Nat → Int32} {ρ : Nat → Nat → Nat} {x0 x1 : Int32} (h : (¬ x1 = 0) ∧ ((0 ≤ (x0 ^^^ x1)) → Q (some (.int (x0 - x0 / x1 * x1))) (Mm sz sl K L κ ρ)) ∧ (¬ (0 ≤ (x0 ^^^ x1)) → (((x0 - x0 / x1 * x1) = 0) → Q (some (.int (x0 - x0 / x1 * x1))) (Mm sz sl K L κ ρ)) ∧ (¬ ((x0 - x0 / x1 * x1) = 0) → Q (some (.int ((x0 - x0 / x1 * x1) + x1))) (Mm sz sl K L κ ρ)))) : wpE (xT 72) ev Q (0, [(0, .int x0), (1, .int x1)], [], Mm sz sl K L κ ρ) := by
  refine p_ild (cc3 c72_0) rfl ?_
  refine p_ild (cc3 c72_1) rfl ?_
  obtain ⟨g, h⟩ := h
  refine p_div (cc3 c72_2) g ?_
  refine p_ist (ls' := [(2, .int (x0 - x0 / x1 * x1)), (0, .int x0), (1, .int x1)]) (cc3 c72_3) (by decide) rfl ?_
  refine p_ild (cc3 c72_4) rfl ?_
  refine p_ild (cc3 c72_5) rfl ?_
  refine p_bin (cc3 c72_6) ?_
  refine p_if (cc3 c72_7) (fun c => ?_) (fun c => ?_)
  · have h := h.1 c
    refine p_lc (ls' := [(2, .int (x0 - x0 / x1 * x1))]) c72_18 rfl rfl ?_
    refine p_ild (cct c72_18 rfl) rfl ?_
    exact p_ri (cc3 c72_19) trivial h
  · have h := h.2 c
    refine p_ild (cc3 c72_10) rfl ?_
    refine p_if (cc3 c72_11) (fun c => ?_) (fun c => ?_)
    · have h := h.1 c
      refine p_lc (ls' := [(2, .int (x0 - x0 / x1 * x1))]) c72_18 rfl rfl ?_
      refine p_ild (cct c72_18 rfl) rfl ?_
      exact p_ri (cc3 c72_19) trivial h
    · have h := h.2 c
      refine p_ild (cc3 c72_14) rfl ?_
      refine p_ild (cc3 c72_15) rfl ?_
      refine p_bin (cc3 c72_16) ?_
      exact p_ri (cc3 c72_17) trivial h
theorem B73_0 {ev : xV} {Q : Option Value → xM → Prop} {sz sl : Nat} {K L : Nat → Nat} {κ : Nat → Nat → Int32} {ρ : Nat → Nat → Nat} {x1 : Int32} {a0 : Nat} (h : (K a0 = 4) ∧ (¬ ρ a0 5 = 0) ∧ (K (ρ a0 5) = 3) ∧ (((κ (ρ a0 5) 9) = 0) → Q (some (.int (κ (ρ a0 5) 6))) (Mm sz sl K L κ ρ)) ∧ (¬ ((κ (ρ a0 5) 9) = 0) → (∃ r κ' ρ', ev 74 [.ref a0, .int x1] (Mm sz sl K L κ ρ) (some (.int r)) (Mm sz sl K L κ' ρ') ∧ wpE (xT 73) ev Q (15, [(0, .ref a0), (1, .int x1)], [.int r], Mm sz sl K L κ' ρ')))) : wpE (xT 73) ev Q (0, [(0, .ref a0), (1, .int x1)], [], Mm sz sl K L κ ρ) := by
  refine p_ald (cc3 c73_0) rfl ?_
  obtain ⟨g1, h⟩ := h
  obtain ⟨g2, h⟩ := h
  refine p_getp (cc3 c73_1) g1 rfl g2 ?_
  obtain ⟨g3, h⟩ := h
  refine p_geti (cc3 c73_4) g3 rfl ?_
  refine p_if (cc3 c73_7) (fun c => ?_) (fun c => ?_)
  · have h := h.1 c
    refine p_lc (ls' := [(0, .ref a0)]) c73_22 rfl rfl ?_
    refine p_ald (cct c73_22 rfl) rfl ?_
    refine p_getp (cc3 c73_23) g1 rfl g2 ?_
    refine p_geti (cc3 c73_26) g3 rfl ?_
    refine p_lc (ls' := []) c73_29 rfl rfl ?_
    exact p_ri (cct c73_29 rfl) trivial h
  · have h := h.2 c
    refine p_ald (cc3 c73_10) rfl ?_
    refine p_ild (cc3 c73_11) rfl ?_
    obtain ⟨r, κ', ρ', he, h⟩ := h
    exact p_callV (cc3 c73_12) (Nat.le_of_ble_eq_true rfl) rfl rfl (Nat.le_of_ble_eq_true rfl) g1 he h
theorem B73_15 {ev : xV} {Q : Option Value → xM → Prop} {sz sl : Nat} {K L : Nat → Nat} {κ : Nat → Nat → Int32} {ρ : Nat → Nat → Nat} {x1 s0 : Int32} {a0 : Nat} (h : ((s0 = 0) → Q (some (.int 0)) (Mm sz sl K L κ ρ)) ∧ (¬ (s0 = 0) → (K a0 = 4) ∧ (¬ ρ a0 5 = 0) ∧ (K (ρ a0 5) = 3) ∧ Q (some (.int (κ (ρ a0 5) 6))) (Mm sz sl K L κ ρ))) : wpE (xT 73) ev Q (15, [(0, .ref a0), (1, .int x1)], [.int s0], Mm sz sl K L κ ρ) := by
  refine p_if (cc3 c73_15) (fun c => ?_) (fun c => ?_)
  · have h := h.1 c
    refine p_push (cc3 c73_18) ?_
    refine p_goto (cc3 c73_19) ?_
    refine p_lc (ls' := []) c73_29 rfl rfl ?_
    exact p_ri (cct c73_29 rfl) trivial h
  · have h := h.2 c
    refine p_lc (ls' := [(0, .ref a0)]) c73_22 rfl rfl ?_
    refine p_ald (cct c73_22 rfl) rfl ?_
    obtain ⟨g1, h⟩ := h
    obtain ⟨g2, h⟩ := h
    refine p_getp (cc3 c73_23) g1 rfl g2 ?_
    obtain ⟨g3, h⟩ := h
    refine p_geti (cc3 c73_26) g3 rfl ?_
    refine p_lc (ls' := []) c73_29 rfl rfl ?_
    exact p_ri (cct c73_29 rfl) trivial h
theorem B74_0 {ev : xV} {Q : Option Value → xM → Prop} {sz sl : Nat} {K L : Nat → Nat} {κ : Nat → Nat → Int32} {ρ : Nat → Nat → Nat} {x1 : Int32} {a0 : Nat} (h : (K a0 = 4) ∧ (¬ ρ a0 5 = 0) ∧ (K (ρ a0 5) = 3) ∧ (((κ (ρ a0 5) 0) = 5) → ((x1 = ((κ (ρ a0 5) 4) - 2)) → Q (some (.int 1)) (Mm sz sl K L κ ρ)) ∧ (¬ (x1 = ((κ (ρ a0 5) 4) - 2)) → Q (some (.int 0)) (Mm sz sl K L κ ρ))) ∧ (¬ ((κ (ρ a0 5) 0) = 5) → Q (some (.int 0)) (Mm sz sl K L κ ρ))) : wpE (xT 74) ev Q (0, [(0, .ref a0), (1, .int x1)], [], Mm sz sl K L κ ρ) := by
  refine p_ald (cc3 c74_0) rfl ?_
  obtain ⟨g1, h⟩ := h
  obtain ⟨g2, h⟩ := h
  refine p_getp (cc3 c74_1) g1 rfl g2 ?_
  obtain ⟨g3, h⟩ := h
  refine p_geti (cc3 c74_4) g3 rfl ?_
  refine p_push (cc3 c74_7) ?_
  refine p_icmp (cc3 c74_8) (fun c => ?_) (fun c => ?_)
  · have h := h.1 c
    refine p_ild (cc3 c74_11) rfl ?_
    refine p_ald (cc3 c74_12) rfl ?_
    refine p_getp (cc3 c74_13) g1 rfl g2 ?_
    refine p_geti (cc3 c74_16) g3 rfl ?_
    refine p_push (cc3 c74_19) ?_
    refine p_bin (cc3 c74_20) ?_
    refine p_icmp (cc3 c74_21) (fun c => ?_) (fun c => ?_)
    · have h := h.1 c
      refine p_push (cc3 c74_24) ?_
      refine p_goto (cc3 c74_25) ?_
      refine p_lc (ls' := []) c74_29 rfl rfl ?_
      exact p_ri (cct c74_29 rfl) (by decide) h
    · have h := h.2 c
      refine p_lc (ls' := []) c74_28 rfl rfl ?_
      refine p_push (cct c74_28 rfl) ?_
      exact p_ri (cct c74_29 rfl) (by decide) h
  · have h := h.2 c
    refine p_lc (ls' := []) c74_28 rfl rfl ?_
    refine p_push (cct c74_28 rfl) ?_
    exact p_ri (cct c74_29 rfl) (by decide) h
theorem B75_0 {ev : xV} {Q : Option Value → xM → Prop} {sz sl : Nat} {K L : Nat → Nat} {κ : Nat → Nat → Int32} {ρ : Nat → Nat → Nat} {x1 x2 : Int32} {a0 : Nat} (h : (K a0 = 4) ∧ (¬ ρ a0 5 = 0) ∧ (K (ρ a0 5) = 3) ∧ (((κ (ρ a0 5) 0) = 2) → Q (some (.int (x2 + 1))) (Mm sz sl K L κ ρ)) ∧ (¬ ((κ (ρ a0 5) 0) = 2) → (((κ (ρ a0 5) 0) = 3) → Q (some (.int (x2 + (x2 - x2 / 2 * 2)))) (Mm sz sl K L κ ρ)) ∧ (¬ ((κ (ρ a0 5) 0) = 3) → (((κ (ρ a0 5) 0) = 4) → Q (some (.int ((2 * x2) + 1))) (Mm sz sl K L κ ρ)) ∧ (¬ ((κ (ρ a0 5) 0) = 4) → (((κ (ρ a0 5) 0) = 5) → (∃ r κ' ρ', ev 74 [.ref a0, .int x1] (Mm sz sl K L κ ρ) (some (.int r)) (Mm sz sl K L κ' ρ') ∧ wpE (xT 75) ev Q (57, [(0, .ref a0), (1, .int x1), (2, .int x2)], [.int r], Mm sz sl K L κ' ρ'))) ∧ (¬ ((κ (ρ a0 5) 0) = 5) → Q (some (.int x2)) (Mm sz sl K L κ ρ)))))) : wpE (xT 75) ev Q (0, [(0, .ref a0), (1, .int x1), (2, .int x2)], [], Mm sz sl K L κ ρ) := by
  refine p_ald (cc3 c75_0) rfl ?_
  obtain ⟨g1, h⟩ := h
  obtain ⟨g2, h⟩ := h
  refine p_getp (cc3 c75_1) g1 rfl g2 ?_
  obtain ⟨g3, h⟩ := h
  refine p_geti (cc3 c75_4) g3 rfl ?_
  refine p_sw (cc3 c75_7) ?_
  refine ⟨fun c => ?_, fun c => ?_⟩
  · have h := h.1 c
    refine p_ild (cc3 c75_36) rfl ?_
    refine p_push (cc3 c75_37) ?_
    refine p_bin (cc3 c75_38) ?_
    exact p_ri (cc3 c75_39) trivial h
  · have h := h.2 c
    refine ⟨fun c => ?_, fun c => ?_⟩
    · have h := h.1 c
      refine p_ild (cc3 c75_46) rfl ?_
      refine p_ild (cc3 c75_47) rfl ?_
      refine p_push (cc3 c75_48) ?_
      refine p_div (cc3 c75_49) (by decide) ?_
      refine p_bin (cc3 c75_50) ?_
      exact p_ri (cc3 c75_51) trivial h
    · have h := h.2 c
      refine ⟨fun c => ?_, fun c => ?_⟩
      · have h := h.1 c
        refine p_push (cc3 c75_40) ?_
        refine p_ild (cc3 c75_41) rfl ?_
        refine p_bin (cc3 c75_42) ?_
        refine p_push (cc3 c75_43) ?_
        refine p_bin (cc3 c75_44) ?_
        exact p_ri (cc3 c75_45) trivial h
      · have h := h.2 c
        refine ⟨fun c => ?_, fun c => ?_⟩
        · have h := h.1 c
          refine p_ald (cc3 c75_52) rfl ?_
          refine p_ild (cc3 c75_53) rfl ?_
          obtain ⟨r, κ', ρ', he, h⟩ := h
          exact p_callV (cc3 c75_54) (Nat.le_of_ble_eq_true rfl) rfl rfl (Nat.le_of_ble_eq_true rfl) g1 he h
        · have h := h.2 c
          refine p_ild (cc3 c75_70) rfl ?_
          exact p_ri (cc3 c75_71) trivial h
theorem B75_57 {ev : xV} {Q : Option Value → xM → Prop} {sz sl : Nat} {K L : Nat → Nat} {κ : Nat → Nat → Int32} {ρ : Nat → Nat → Nat} {x1 x2 s0 : Int32} {a0 : Nat} (h : ((s0 = 0) → Q (some (.int (x2 + (x2 - x2 / 2 * 2)))) (Mm sz sl K L κ ρ)) ∧ (¬ (s0 = 0) → Q (some (.int x2)) (Mm sz sl K L κ ρ))) : wpE (xT 75) ev Q (57, [(0, .ref a0), (1, .int x1), (2, .int x2)], [.int s0], Mm sz sl K L κ ρ) := by
  refine p_if (cc3 c75_57) (fun c => ?_) (fun c => ?_)
  · have h := h.1 c
    refine p_ild (cc3 c75_64) rfl ?_
    refine p_ild (cc3 c75_65) rfl ?_
    refine p_push (cc3 c75_66) ?_
    refine p_div (cc3 c75_67) (by decide) ?_
    refine p_bin (cc3 c75_68) ?_
    refine p_lc (ls' := []) c75_69 rfl rfl ?_
    exact p_ri (cct c75_69 rfl) trivial h
  · have h := h.2 c
    refine p_ild (cc3 c75_60) rfl ?_
    refine p_goto (cc3 c75_61) ?_
    refine p_lc (ls' := []) c75_69 rfl rfl ?_
    exact p_ri (cct c75_69 rfl) trivial h
theorem B76_0 {ev : xV} {Q : Option Value → xM → Prop} {sz sl : Nat} {K L : Nat → Nat} {κ : Nat → Nat → Int32} {ρ : Nat → Nat → Nat} {x1 x2 : Int32} {a0 : Nat} (h : ((K a0 = 4) ∧ ∃ r κ' ρ', ev 77 [.ref a0, .int x2] (Mm sz sl K L κ ρ) (some (.int r)) (Mm sz sl K L κ' ρ') ∧ wpE (xT 76) ev Q (5, [(0, .ref a0), (1, .int x1), (2, .int x2)], [.int r], Mm sz sl K L κ' ρ'))) : wpE (xT 76) ev Q (0, [(0, .ref a0), (1, .int x1), (2, .int x2)], [], Mm sz sl K L κ ρ) := by
  refine p_ald (cc3 c76_0) rfl ?_
  refine p_ild (cc3 c76_1) rfl ?_
  obtain ⟨g1, h⟩ := h
  obtain ⟨r, κ', ρ', he, h⟩ := h
  exact p_callV (cc3 c76_2) (Nat.le_of_ble_eq_true rfl) rfl rfl (Nat.le_of_ble_eq_true rfl) g1 he h
theorem B76_5 {ev : xV} {Q : Option Value → xM → Prop} {sz sl : Nat} {K L : Nat → Nat} {κ : Nat → Nat → Int32} {ρ : Nat → Nat → Nat} {x1 x2 s0 : Int32} {a0 : Nat} (h : (K a0 = 4) ∧ (¬ ρ a0 6 = 0) ∧ (K (ρ a0 6) = 1) ∧ (((κ (ρ a0 6) 2) < s0) → Q (some (.int ((-1)))) (Mm sz sl K L κ ρ)) ∧ (¬ ((κ (ρ a0 6) 2) < s0) → (¬ ρ a0 1 = 0) ∧ (K (ρ a0 1) = 20) ∧ (vp_in x1 (L (ρ a0 1))) ∧ (¬ ρ a0 7 = 0) ∧ (K (ρ a0 7) = 6) ∧ (¬ ρ a0 5 = 0) ∧ (K (ρ a0 5) = 3) ∧ (∃ r κ' ρ', ev 56 [.ref (ρ a0 6), .int ((κ (ρ a0 1) x1.toNatClampNeg) + (x2 * (κ (ρ a0 7) 1))), .int (κ (ρ a0 5) 6)] (Mm sz sl K L κ ρ) (some (.int r)) (Mm sz sl K L κ' ρ') ∧ wpE (xT 76) ev Q (45, [(0, .ref a0), (1, .int x1), (2, .int x2)], [.int r], Mm sz sl K L κ' ρ')))) : wpE (xT 76) ev Q (5, [(0, .ref a0), (1, .int x1), (2, .int x2)], [.int s0], Mm sz sl K L κ ρ) := by
  refine p_ald (cc3 c76_5) rfl ?_
  obtain ⟨g1, h⟩ := h
  obtain ⟨g2, h⟩ := h
  refine p_getp (cc3 c76_6) g1 rfl g2 ?_
  obtain ⟨g3, h⟩ := h
  refine p_geti (cc3 c76_9) g3 rfl ?_
  refine p_icmp (cc3 c76_12) (fun c => ?_) (fun c => ?_)
  · have h := h.1 c
    refine p_lc (ls' := []) c76_48 rfl rfl ?_
    refine p_push (cct c76_48 rfl) ?_
    exact p_ri (cc3 c76_49) trivial h
  · have h := h.2 c
    refine p_ald (cc3 c76_15) rfl ?_
    refine p_getp (cc3 c76_16) g1 rfl g2 ?_
    refine p_ald (cc3 c76_19) rfl ?_
    obtain ⟨g4, h⟩ := h
    refine p_getp (cc3 c76_20) g1 rfl g4 ?_
    refine p_ild (cc3 c76_23) rfl ?_
    obtain ⟨g5, h⟩ := h
    obtain ⟨g6, h⟩ := h
    refine p_aldi (cc3 c76_24) g5 g6 rfl ?_
    refine p_ild (cc3 c76_25) rfl ?_
    refine p_ald (cc3 c76_26) rfl ?_
    obtain ⟨g7, h⟩ := h
    refine p_getp (cc3 c76_27) g1 rfl g7 ?_
    obtain ⟨g8, h⟩ := h
    refine p_geti (cc3 c76_30) g8 rfl ?_
    refine p_bin (cc3 c76_33) ?_
    refine p_bin (cc3 c76_34) ?_
    refine p_ald (cc3 c76_35) rfl ?_
    obtain ⟨g9, h⟩ := h
    refine p_getp (cc3 c76_36) g1 rfl g9 ?_
    obtain ⟨g10, h⟩ := h
    refine p_geti (cc3 c76_39) g10 rfl ?_
    obtain ⟨r, κ', ρ', he, h⟩ := h
    exact p_callV (cc3 c76_42) (Nat.le_of_ble_eq_true rfl) rfl rfl (Nat.le_of_ble_eq_true rfl) g3 he h
theorem B76_45 {ev : xV} {Q : Option Value → xM → Prop} {sz sl : Nat} {K L : Nat → Nat} {κ : Nat → Nat → Int32} {ρ : Nat → Nat → Nat} {x1 x2 s0 : Int32} {a0 : Nat} (h : ((s0 = 0) → Q (some (.int ((-1)))) (Mm sz sl K L κ ρ)) ∧ (¬ (s0 = 0) → (K a0 = 4) ∧ (¬ ρ a0 5 = 0) ∧ (K (ρ a0 5) = 3) ∧ ((x1 = ((κ (ρ a0 5) 4) - 1)) → wpE (xT 76) ev Q (68, [(0, .ref a0), (2, .int x2), (3, .int ((-1))), (4, .int 3)], [], Mm sz sl K L κ ρ)) ∧ (¬ (x1 = ((κ (ρ a0 5) 4) - 1)) → wpE (xT 76) ev Q (104, [(0, .ref a0), (1, .int x1), (2, .int x2), (3, .int ((-1))), (4, .int 1)], [], Mm sz sl K L κ ρ)))) : wpE (xT 76) ev Q (45, [(0, .ref a0), (1, .int x1), (2, .int x2)], [.int s0], Mm sz sl K L κ ρ) := by
  refine p_if (cc3 c76_45) (fun c => ?_) (fun c => ?_)
  · have h := h.1 c
    refine p_lc (ls' := []) c76_48 rfl rfl ?_
    refine p_push (cct c76_48 rfl) ?_
    exact p_ri (cc3 c76_49) trivial h
  · have h := h.2 c
    refine p_push (cc3 c76_50) ?_
    refine p_ist (ls' := [(3, .int ((-1))), (0, .ref a0), (1, .int x1), (2, .int x2)]) (cc3 c76_51) (by decide) rfl ?_
    refine p_ild (cc3 c76_52) rfl ?_
    refine p_ald (cc3 c76_53) rfl ?_
    obtain ⟨g1, h⟩ := h
    obtain ⟨g2, h⟩ := h
    refine p_getp (cc3 c76_54) g1 rfl g2 ?_
    obtain ⟨g3, h⟩ := h
    refine p_geti (cc3 c76_57) g3 rfl ?_
    refine p_push (cc3 c76_60) ?_
    refine p_bin (cc3 c76_61) ?_
    refine p_icmp (cc3 c76_62) (fun c => ?_) (fun c => ?_)
    · have h := h.1 c
      refine p_push (cc3 c76_65) ?_
      refine p_ist (ls' := [(4, .int 3), (3, .int ((-1))), (0, .ref a0), (1, .int x1), (2, .int x2)]) (cc3 c76_66) (by decide) rfl ?_
      exact p_lc (ls' := [(0, .ref a0), (2, .int x2), (3, .int ((-1))), (4, .int 3)]) c76_68 rfl rfl h
    · have h := h.2 c
      refine p_push (cc3 c76_101) ?_
      refine p_ist (ls' := [(4, .int 1), (3, .int ((-1))), (0, .ref a0), (1, .int x1), (2, .int x2)]) (cc3 c76_102) (by decide) rfl ?_
      exact p_lc (ls' := [(0, .ref a0), (1, .int x1), (2, .int x2), (3, .int ((-1))), (4, .int 1)]) c76_104 rfl rfl h
theorem B76_68 {ev : xV} {Q : Option Value → xM → Prop} {sz sl : Nat} {K L : Nat → Nat} {κ : Nat → Nat → Int32} {ρ : Nat → Nat → Nat} {x2 x3 x4 : Int32} {a0 : Nat} (h : ((x4 < 0) → Q (some (.int x3)) (Mm sz sl K L κ ρ)) ∧ (¬ (x4 < 0) → ((K a0 = 4) ∧ ∃ r κ' ρ', ev 78 [.ref a0, .int (x2 + x4)] (Mm sz sl K L κ ρ) (some (.int r)) (Mm sz sl K L κ' ρ') ∧ wpE (xT 76) ev Q (81, [(0, .ref a0), (2, .int x2), (3, .int x3), (4, .int x4)], [.int r], Mm sz sl K L κ' ρ')))) : wpE (xT 76) ev Q (68, [(0, .ref a0), (2, .int x2), (3, .int x3), (4, .int x4)], [], Mm sz sl K L κ ρ) := by
  refine p_ild (cct c76_68 rfl) rfl ?_
  refine p_if (cc3 c76_70) (fun c => ?_) (fun c => ?_)
  · have h := h.1 c
    refine p_ild (cc3 c76_99) rfl ?_
    exact p_ri (cc3 c76_100) trivial h
  · have h := h.2 c
    refine p_ald (cc3 c76_73) rfl ?_
    refine p_ild (cc3 c76_74) rfl ?_
    refine p_ild (cc3 c76_75) rfl ?_
    refine p_bin (cc3 c76_77) ?_
    obtain ⟨g1, h⟩ := h
    obtain ⟨r, κ', ρ', he, h⟩ := h
    exact p_callV (cc3 c76_78) (Nat.le_of_ble_eq_true rfl) rfl rfl (Nat.le_of_ble_eq_true rfl) g1 he h
theorem B76_81 {ev : xV} {Q : Option Value → xM → Prop} {sz sl : Nat} {K L : Nat → Nat} {κ : Nat → Nat → Int32} {ρ : Nat → Nat → Nat} {x2 x3 x4 s0 : Int32} {a0 : Nat} (h : ((s0 = 0) → wpE (xT 76) ev Q (68, [(0, .ref a0), (2, .int x2), (3, .int x3), (4, .int (x4 + (-1)))], [], Mm sz sl K L κ ρ)) ∧ (¬ (s0 = 0) → wpE (xT 76) ev Q (68, [(0, .ref a0), (2, .int x2), (3, .int (x2 + x4)), (4, .int (x4 + (-1)))], [], Mm sz sl K L κ ρ))) : wpE (xT 76) ev Q (81, [(0, .ref a0), (2, .int x2), (3, .int x3), (4, .int x4)], [.int s0], Mm sz sl K L κ ρ) := by
  refine p_if (cc3 c76_81) (fun c => ?_) (fun c => ?_)
  · have h := h.1 c
    refine p_ild (cc3 c76_91) rfl ?_
    refine p_lc (ls' := [(0, .ref a0), (2, .int x2), (4, .int x4)]) c76_92 rfl rfl ?_
    refine p_ist (ls' := [(3, .int x3), (0, .ref a0), (2, .int x2), (4, .int x4)]) (cct c76_92 rfl) (by decide) rfl ?_
    refine p_iinc (y := x4 + (-1)) (ls' := [(4, .int (x4 + (-1))), (3, .int x3), (0, .ref a0), (2, .int x2)]) (cc3 c76_93) (by decide) rfl rfl rfl ?_
    refine p_goto (cc3 c76_96) ?_
    exact p_lc (ls' := [(0, .ref a0), (2, .int x2), (3, .int x3), (4, .int (x4 + (-1)))]) c76_68 rfl rfl h
  · have h := h.2 c
    refine p_ild (cc3 c76_84) rfl ?_
    refine p_ild (cc3 c76_85) rfl ?_
    refine p_bin (cc3 c76_87) ?_
    refine p_goto (cc3 c76_88) ?_
    refine p_lc (ls' := [(0, .ref a0), (2, .int x2), (4, .int x4)]) c76_92 rfl rfl ?_
    refine p_ist (ls' := [(3, .int (x2 + x4)), (0, .ref a0), (2, .int x2), (4, .int x4)]) (cct c76_92 rfl) (by decide) rfl ?_
    refine p_iinc (y := x4 + (-1)) (ls' := [(4, .int (x4 + (-1))), (3, .int (x2 + x4)), (0, .ref a0), (2, .int x2)]) (cc3 c76_93) (by decide) rfl rfl rfl ?_
    refine p_goto (cc3 c76_96) ?_
    exact p_lc (ls' := [(0, .ref a0), (2, .int x2), (3, .int (x2 + x4)), (4, .int (x4 + (-1)))]) c76_68 rfl rfl h
theorem B76_104 {ev : xV} {Q : Option Value → xM → Prop} {sz sl : Nat} {K L : Nat → Nat} {κ : Nat → Nat → Int32} {ρ : Nat → Nat → Nat} {x1 x2 x3 x4 : Int32} {a0 : Nat} (h : ((4 < x4) → Q (some (.int x3)) (Mm sz sl K L κ ρ)) ∧ (¬ (4 < x4) → ((K a0 = 4) ∧ ∃ r κ' ρ', ev 79 [.ref a0, .int x1, .int x4] (Mm sz sl K L κ ρ) (some (.int r)) (Mm sz sl K L κ' ρ') ∧ wpE (xT 76) ev Q (117, [(0, .ref a0), (1, .int x1), (2, .int x2), (3, .int x3), (4, .int x4)], [.int r], Mm sz sl K L κ' ρ')))) : wpE (xT 76) ev Q (104, [(0, .ref a0), (1, .int x1), (2, .int x2), (3, .int x3), (4, .int x4)], [], Mm sz sl K L κ ρ) := by
  refine p_ild (cct c76_104 rfl) rfl ?_
  refine p_push (cc3 c76_106) ?_
  refine p_icmp (cc3 c76_107) (fun c => ?_) (fun c => ?_)
  · have h := h.1 c
    refine p_ild (cc3 c76_147) rfl ?_
    exact p_ri (cc3 c76_148) trivial h
  · have h := h.2 c
    refine p_ald (cc3 c76_110) rfl ?_
    refine p_ild (cc3 c76_111) rfl ?_
    refine p_ild (cc3 c76_112) rfl ?_
    obtain ⟨g1, h⟩ := h
    obtain ⟨r, κ', ρ', he, h⟩ := h
    exact p_callV (cc3 c76_114) (Nat.le_of_ble_eq_true rfl) rfl rfl (Nat.le_of_ble_eq_true rfl) g1 he h
theorem B76_117 {ev : xV} {Q : Option Value → xM → Prop} {sz sl : Nat} {K L : Nat → Nat} {κ : Nat → Nat → Int32} {ρ : Nat → Nat → Nat} {x1 x2 x3 x4 s0 : Int32} {a0 : Nat} (h : ((s0 = 0) → wpE (xT 76) ev Q (104, [(0, .ref a0), (1, .int x1), (2, .int x2), (3, .int x3), (4, .int (x4 + 1))], [], Mm sz sl K L κ ρ)) ∧ (¬ (s0 = 0) → ((K a0 = 4) ∧ ∃ r κ' ρ', ev 75 [.ref a0, .int x1, .int x4] (Mm sz sl K L κ ρ) (some (.int r)) (Mm sz sl K L κ' ρ') ∧ wpE (xT 76) ev Q (133, [(0, .ref a0), (1, .int x1), (2, .int x2), (3, .int x3), (4, .int x4)], [.int r, .int x2, .int (x1 + 1), .ref a0, .int x3], Mm sz sl K L κ' ρ')))) : wpE (xT 76) ev Q (117, [(0, .ref a0), (1, .int x1), (2, .int x2), (3, .int x3), (4, .int x4)], [.int s0], Mm sz sl K L κ ρ) := by
  refine p_if (cc3 c76_117) (fun c => ?_) (fun c => ?_)
  · have h := h.1 c
    refine p_iinc (y := x4 + 1) (ls' := [(4, .int (x4 + 1)), (0, .ref a0), (1, .int x1), (2, .int x2), (3, .int x3)]) (cct c76_141 rfl) (by decide) rfl rfl rfl ?_
    refine p_goto (cc3 c76_144) ?_
    exact p_lc (ls' := [(0, .ref a0), (1, .int x1), (2, .int x2), (3, .int x3), (4, .int (x4 + 1))]) c76_104 rfl rfl h
  · have h := h.2 c
    refine p_ild (cc3 c76_120) rfl ?_
    refine p_ald (cc3 c76_121) rfl ?_
    refine p_ild (cc3 c76_122) rfl ?_
    refine p_push (cc3 c76_123) ?_
    refine p_bin (cc3 c76_124) ?_
    refine p_ild (cc3 c76_125) rfl ?_
    refine p_ald (cc3 c76_126) rfl ?_
    refine p_ild (cc3 c76_127) rfl ?_
    refine p_ild (cc3 c76_128) rfl ?_
    obtain ⟨g1, h⟩ := h
    obtain ⟨r, κ', ρ', he, h⟩ := h
    exact p_callV (cc3 c76_130) (Nat.le_of_ble_eq_true rfl) rfl rfl (Nat.le_of_ble_eq_true rfl) g1 he h
theorem B76_133 {ev : xV} {Q : Option Value → xM → Prop} {sz sl : Nat} {K L : Nat → Nat} {κ : Nat → Nat → Int32} {ρ : Nat → Nat → Nat} {x1 x2 x3 x4 s0 s1 s2 s4 : Int32} {a0 b3 : Nat} (h : ((K b3 = 4) ∧ ∃ r κ' ρ', ev 80 [.ref b3, .int s2, .int (s1 + s0)] (Mm sz sl K L κ ρ) (some (.int r)) (Mm sz sl K L κ' ρ') ∧ wpE (xT 76) ev Q (137, [(0, .ref a0), (1, .int x1), (2, .int x2), (3, .int x3), (4, .int x4)], [.int r, .int s4], Mm sz sl K L κ' ρ'))) : wpE (xT 76) ev Q (133, [(0, .ref a0), (1, .int x1), (2, .int x2), (3, .int x3), (4, .int x4)], [.int s0, .int s1, .int s2, .ref b3, .int s4], Mm sz sl K L κ ρ) := by
  refine p_bin (cc3 c76_133) ?_
  obtain ⟨g1, h⟩ := h
  obtain ⟨r, κ', ρ', he, h⟩ := h
  exact p_callV (cc3 c76_134) (Nat.le_of_ble_eq_true rfl) rfl rfl (Nat.le_of_ble_eq_true rfl) g1 he h
theorem B76_137 {ev : xV} {Q : Option Value → xM → Prop} {sz sl : Nat} {K L : Nat → Nat} {κ : Nat → Nat → Int32} {ρ : Nat → Nat → Nat} {x1 x2 x3 x4 s0 s1 : Int32} {a0 : Nat} (h : (∃ r κ' ρ', ev 81 [.int s1, .int s0] (Mm sz sl K L κ ρ) (some (.int r)) (Mm sz sl K L κ' ρ') ∧ wpE (xT 76) ev Q (140, [(0, .ref a0), (1, .int x1), (2, .int x2), (3, .int x3), (4, .int x4)], [.int r], Mm sz sl K L κ' ρ'))) : wpE (xT 76) ev Q (137, [(0, .ref a0), (1, .int x1), (2, .int x2), (3, .int x3), (4, .int x4)], [.int s0, .int s1], Mm sz sl K L κ ρ) := by
  obtain ⟨r, κ', ρ', he, h⟩ := h
  exact p_callS (cc3 c76_137) (Nat.le_of_ble_eq_true rfl) rfl rfl (Nat.le_of_ble_eq_true rfl) he h
theorem B76_140 {ev : xV} {Q : Option Value → xM → Prop} {sz sl : Nat} {K L : Nat → Nat} {κ : Nat → Nat → Int32} {ρ : Nat → Nat → Nat} {x1 x2 x3 x4 s0 : Int32} {a0 : Nat} (h : wpE (xT 76) ev Q (104, [(0, .ref a0), (1, .int x1), (2, .int x2), (3, .int s0), (4, .int (x4 + 1))], [], Mm sz sl K L κ ρ)) : wpE (xT 76) ev Q (140, [(0, .ref a0), (1, .int x1), (2, .int x2), (3, .int x3), (4, .int x4)], [.int s0], Mm sz sl K L κ ρ) := by
  refine p_ist (ls' := [(3, .int s0), (0, .ref a0), (1, .int x1), (2, .int x2), (4, .int x4)]) (cc3 c76_140) (by decide) rfl ?_
  refine p_lc (ls' := [(0, .ref a0), (1, .int x1), (2, .int x2), (3, .int s0), (4, .int x4)]) c76_141 rfl rfl ?_
  refine p_iinc (y := x4 + 1) (ls' := [(4, .int (x4 + 1)), (0, .ref a0), (1, .int x1), (2, .int x2), (3, .int s0)]) (cct c76_141 rfl) (by decide) rfl rfl rfl ?_
  refine p_goto (cc3 c76_144) ?_
  exact p_lc (ls' := [(0, .ref a0), (1, .int x1), (2, .int x2), (3, .int s0), (4, .int (x4 + 1))]) c76_104 rfl rfl h
theorem B77_0 {ev : xV} {Q : Option Value → xM → Prop} {sz sl : Nat} {K L : Nat → Nat} {κ : Nat → Nat → Int32} {ρ : Nat → Nat → Nat} {x1 : Int32} {a0 : Nat} (h : (K a0 = 4) ∧ (¬ ρ a0 7 = 0) ∧ (K (ρ a0 7) = 6) ∧ (¬ ρ a0 5 = 0) ∧ (K (ρ a0 5) = 3) ∧ Q (some (.int (((κ a0 3) + (x1 * (κ (ρ a0 7) 1))) + (κ (ρ a0 5) 7)))) (Mm sz sl K L κ ρ)) : wpE (xT 77) ev Q (0, [(0, .ref a0), (1, .int x1)], [], Mm sz sl K L κ ρ) := by
  refine p_ald (cc3 c77_0) rfl ?_
  obtain ⟨g1, h⟩ := h
  refine p_geti (cc3 c77_1) g1 rfl ?_
  refine p_ild (cc3 c77_4) rfl ?_
  refine p_ald (cc3 c77_5) rfl ?_
  obtain ⟨g2, h⟩ := h
  refine p_getp (cc3 c77_6) g1 rfl g2 ?_
  obtain ⟨g3, h⟩ := h
  refine p_geti (cc3 c77_9) g3 rfl ?_
  refine p_bin (cc3 c77_12) ?_
  refine p_bin (cc3 c77_13) ?_
  refine p_ald (cc3 c77_14) rfl ?_
  obtain ⟨g4, h⟩ := h
  refine p_getp (cc3 c77_15) g1 rfl g4 ?_
  obtain ⟨g5, h⟩ := h
  refine p_geti (cc3 c77_18) g5 rfl ?_
  refine p_bin (cc3 c77_21) ?_
  exact p_ri (cc3 c77_22) trivial h
theorem B78_0 {ev : xV} {Q : Option Value → xM → Prop} {sz sl : Nat} {K L : Nat → Nat} {κ : Nat → Nat → Int32} {ρ : Nat → Nat → Nat} {x1 : Int32} {a0 : Nat} (h : ((K a0 = 4) ∧ ∃ r κ' ρ', ev 77 [.ref a0, .int x1] (Mm sz sl K L κ ρ) (some (.int r)) (Mm sz sl K L κ' ρ') ∧ wpE (xT 78) ev Q (5, [(0, .ref a0), (1, .int x1)], [.int r], Mm sz sl K L κ' ρ'))) : wpE (xT 78) ev Q (0, [(0, .ref a0), (1, .int x1)], [], Mm sz sl K L κ ρ) := by
  refine p_ald (cc3 c78_0) rfl ?_
  refine p_ild (cc3 c78_1) rfl ?_
  obtain ⟨g1, h⟩ := h
  obtain ⟨r, κ', ρ', he, h⟩ := h
  exact p_callV (cc3 c78_2) (Nat.le_of_ble_eq_true rfl) rfl rfl (Nat.le_of_ble_eq_true rfl) g1 he h
theorem B78_5 {ev : xV} {Q : Option Value → xM → Prop} {sz sl : Nat} {K L : Nat → Nat} {κ : Nat → Nat → Int32} {ρ : Nat → Nat → Nat} {x1 s0 : Int32} {a0 : Nat} (h : (K a0 = 4) ∧ (¬ ρ a0 6 = 0) ∧ (K (ρ a0 6) = 1) ∧ (((κ (ρ a0 6) 2) < s0) → Q (some (.int 0)) (Mm sz sl K L κ ρ)) ∧ (¬ ((κ (ρ a0 6) 2) < s0) → (¬ ρ a0 7 = 0) ∧ (K (ρ a0 7) = 6) ∧ (¬ ρ a0 5 = 0) ∧ (K (ρ a0 5) = 3) ∧ (∃ r κ' ρ', ev 56 [.ref (ρ a0 6), .int ((κ a0 3) + (x1 * (κ (ρ a0 7) 1))), .int (κ (ρ a0 5) 7)] (Mm sz sl K L κ ρ) (some (.int r)) (Mm sz sl K L κ' ρ') ∧ wpE (xT 78) ev Q (43, [(0, .ref a0), (1, .int x1)], [.int r], Mm sz sl K L κ' ρ')))) : wpE (xT 78) ev Q (5, [(0, .ref a0), (1, .int x1)], [.int s0], Mm sz sl K L κ ρ) := by
  refine p_ald (cc3 c78_5) rfl ?_
  obtain ⟨g1, h⟩ := h
  obtain ⟨g2, h⟩ := h
  refine p_getp (cc3 c78_6) g1 rfl g2 ?_
  obtain ⟨g3, h⟩ := h
  refine p_geti (cc3 c78_9) g3 rfl ?_
  refine p_icmp (cc3 c78_12) (fun c => ?_) (fun c => ?_)
  · have h := h.1 c
    refine p_lc (ls' := []) c78_50 rfl rfl ?_
    refine p_push (cct c78_50 rfl) ?_
    exact p_ri (cct c78_51 rfl) (by decide) h
  · have h := h.2 c
    refine p_ald (cc3 c78_15) rfl ?_
    refine p_getp (cc3 c78_16) g1 rfl g2 ?_
    refine p_ald (cc3 c78_19) rfl ?_
    refine p_geti (cc3 c78_20) g1 rfl ?_
    refine p_ild (cc3 c78_23) rfl ?_
    refine p_ald (cc3 c78_24) rfl ?_
    obtain ⟨g4, h⟩ := h
    refine p_getp (cc3 c78_25) g1 rfl g4 ?_
    obtain ⟨g5, h⟩ := h
    refine p_geti (cc3 c78_28) g5 rfl ?_
    refine p_bin (cc3 c78_31) ?_
    refine p_bin (cc3 c78_32) ?_
    refine p_ald (cc3 c78_33) rfl ?_
    obtain ⟨g6, h⟩ := h
    refine p_getp (cc3 c78_34) g1 rfl g6 ?_
    obtain ⟨g7, h⟩ := h
    refine p_geti (cc3 c78_37) g7 rfl ?_
    obtain ⟨r, κ', ρ', he, h⟩ := h
    exact p_callV (cc3 c78_40) (Nat.le_of_ble_eq_true rfl) rfl rfl (Nat.le_of_ble_eq_true rfl) g3 he h
theorem B78_43 {ev : xV} {Q : Option Value → xM → Prop} {sz sl : Nat} {K L : Nat → Nat} {κ : Nat → Nat → Int32} {ρ : Nat → Nat → Nat} {x1 s0 : Int32} {a0 : Nat} (h : ((s0 = 0) → Q (some (.int 0)) (Mm sz sl K L κ ρ)) ∧ (¬ (s0 = 0) → Q (some (.int 1)) (Mm sz sl K L κ ρ))) : wpE (xT 78) ev Q (43, [(0, .ref a0), (1, .int x1)], [.int s0], Mm sz sl K L κ ρ) := by
  refine p_if (cc3 c78_43) (fun c => ?_) (fun c => ?_)
  · have h := h.1 c
    refine p_lc (ls' := []) c78_50 rfl rfl ?_
    refine p_push (cct c78_50 rfl) ?_
    exact p_ri (cct c78_51 rfl) (by decide) h
  · have h := h.2 c
    refine p_push (cc3 c78_46) ?_
    refine p_goto (cc3 c78_47) ?_
    refine p_lc (ls' := []) c78_51 rfl rfl ?_
    exact p_ri (cct c78_51 rfl) (by decide) h
theorem B79_0 {ev : xV} {Q : Option Value → xM → Prop} {sz sl : Nat} {K L : Nat → Nat} {κ : Nat → Nat → Int32} {ρ : Nat → Nat → Nat} {x1 x2 : Int32} {a0 : Nat} (h : ((K a0 = 4) ∧ ∃ r κ' ρ', ev 73 [.ref a0, .int x1] (Mm sz sl K L κ ρ) (some (.int r)) (Mm sz sl K L κ' ρ') ∧ wpE (xT 79) ev Q (5, [(0, .ref a0), (1, .int x1), (2, .int x2)], [.int r], Mm sz sl K L κ' ρ'))) : wpE (xT 79) ev Q (0, [(0, .ref a0), (1, .int x1), (2, .int x2)], [], Mm sz sl K L κ ρ) := by
  refine p_ald (cc3 c79_0) rfl ?_
  refine p_ild (cc3 c79_1) rfl ?_
  obtain ⟨g1, h⟩ := h
  obtain ⟨r, κ', ρ', he, h⟩ := h
  exact p_callV (cc3 c79_2) (Nat.le_of_ble_eq_true rfl) rfl rfl (Nat.le_of_ble_eq_true rfl) g1 he h
theorem B79_5 {ev : xV} {Q : Option Value → xM → Prop} {sz sl : Nat} {K L : Nat → Nat} {κ : Nat → Nat → Int32} {ρ : Nat → Nat → Nat} {x1 x2 s0 : Int32} {a0 : Nat} (h : ((K a0 = 4) ∧ ∃ r κ' ρ', ev 75 [.ref a0, .int x1, .int x2] (Mm sz sl K L κ ρ) (some (.int r)) (Mm sz sl K L κ' ρ') ∧ wpE (xT 79) ev Q (11, [(0, .ref a0), (1, .int x1), (2, .int x2)], [.int r, .int s0], Mm sz sl K L κ' ρ'))) : wpE (xT 79) ev Q (5, [(0, .ref a0), (1, .int x1), (2, .int x2)], [.int s0], Mm sz sl K L κ ρ) := by
  refine p_ald (cc3 c79_5) rfl ?_
  refine p_ild (cc3 c79_6) rfl ?_
  refine p_ild (cc3 c79_7) rfl ?_
  obtain ⟨g1, h⟩ := h
  obtain ⟨r, κ', ρ', he, h⟩ := h
  exact p_callV (cc3 c79_8) (Nat.le_of_ble_eq_true rfl) rfl rfl (Nat.le_of_ble_eq_true rfl) g1 he h
theorem B79_11 {ev : xV} {Q : Option Value → xM → Prop} {sz sl : Nat} {K L : Nat → Nat} {κ : Nat → Nat → Int32} {ρ : Nat → Nat → Nat} {x1 x2 s0 s1 : Int32} {a0 : Nat} (h : (K a0 = 4) ∧ (¬ ρ a0 7 = 0) ∧ (K (ρ a0 7) = 6) ∧ (¬ ρ a0 5 = 0) ∧ (K (ρ a0 5) = 3) ∧ (((s1 + (s0 * (κ (ρ a0 7) 1))) ≤ (κ (ρ a0 5) 6)) → Q (some (.int 0)) (Mm sz sl K L κ ρ)) ∧ (¬ ((s1 + (s0 * (κ (ρ a0 7) 1))) ≤ (κ (ρ a0 5) 6)) → Q (some (.int 1)) (Mm sz sl K L κ ρ))) : wpE (xT 79) ev Q (11, [(0, .ref a0), (1, .int x1), (2, .int x2)], [.int s0, .int s1], Mm sz sl K L κ ρ) := by
  refine p_ald (cc3 c79_11) rfl ?_
  obtain ⟨g1, h⟩ := h
  obtain ⟨g2, h⟩ := h
  refine p_getp (cc3 c79_12) g1 rfl g2 ?_
  obtain ⟨g3, h⟩ := h
  refine p_geti (cc3 c79_15) g3 rfl ?_
  refine p_bin (cc3 c79_18) ?_
  refine p_bin (cc3 c79_19) ?_
  refine p_ald (cc3 c79_20) rfl ?_
  obtain ⟨g4, h⟩ := h
  refine p_getp (cc3 c79_21) g1 rfl g4 ?_
  obtain ⟨g5, h⟩ := h
  refine p_geti (cc3 c79_24) g5 rfl ?_
  refine p_icmp (cc3 c79_27) (fun c => ?_) (fun c => ?_)
  · have h := h.1 c
    refine p_push (cc3 c79_34) ?_
    refine p_lc (ls' := []) c79_35 rfl rfl ?_
    exact p_ri (cct c79_35 rfl) (by decide) h
  · have h := h.2 c
    refine p_push (cc3 c79_30) ?_
    refine p_goto (cc3 c79_31) ?_
    refine p_lc (ls' := []) c79_35 rfl rfl ?_
    exact p_ri (cct c79_35 rfl) (by decide) h
theorem B80_0 {ev : xV} {Q : Option Value → xM → Prop} {sz sl : Nat} {K L : Nat → Nat} {κ : Nat → Nat → Int32} {ρ : Nat → Nat → Nat} {x1 x2 : Int32} {a0 : Nat} (h : ((x1 < 0) → Q (some (.int ((-1)))) (Mm sz sl K L κ ρ)) ∧ (¬ (x1 < 0) → ((24 ≤ x1) → Q (some (.int ((-1)))) (Mm sz sl K L κ ρ)) ∧ (¬ (24 ≤ x1) → ((x2 < 0) → Q (some (.int ((-1)))) (Mm sz sl K L κ ρ)) ∧ (¬ (x2 < 0) → ((x2 < 211) → (K a0 = 4) ∧ (¬ ρ a0 0 = 0) ∧ (K (ρ a0 0) = 20) ∧ (vp_in ((x1 * 211) + x2) (L (ρ a0 0))) ∧ Q (some (.int (κ (ρ a0 0) ((x1 * 211) + x2).toNatClampNeg))) (Mm sz sl K L κ ρ)) ∧ (¬ (x2 < 211) → Q (some (.int ((-1)))) (Mm sz sl K L κ ρ)))))) : wpE (xT 80) ev Q (0, [(0, .ref a0), (1, .int x1), (2, .int x2)], [], Mm sz sl K L κ ρ) := by
  refine p_ild (cc3 c80_0) rfl ?_
  refine p_if (cc3 c80_1) (fun c => ?_) (fun c => ?_)
  · have h := h.1 c
    refine p_lc (ls' := []) c80_21 rfl rfl ?_
    refine p_push (cct c80_21 rfl) ?_
    refine p_goto (cc3 c80_22) ?_
    exact p_ri (cct c80_37 rfl) trivial h
  · have h := h.2 c
    refine p_ild (cc3 c80_4) rfl ?_
    refine p_push (cc3 c80_5) ?_
    refine p_icmp (cc3 c80_7) (fun c => ?_) (fun c => ?_)
    · have h := h.1 c
      refine p_lc (ls' := []) c80_21 rfl rfl ?_
      refine p_push (cct c80_21 rfl) ?_
      refine p_goto (cc3 c80_22) ?_
      exact p_ri (cct c80_37 rfl) trivial h
    · have h := h.2 c
      refine p_ild (cc3 c80_10) rfl ?_
      refine p_if (cc3 c80_11) (fun c => ?_) (fun c => ?_)
      · have h := h.1 c
        refine p_lc (ls' := []) c80_21 rfl rfl ?_
        refine p_push (cct c80_21 rfl) ?_
        refine p_goto (cc3 c80_22) ?_
        exact p_ri (cct c80_37 rfl) trivial h
      · have h := h.2 c
        refine p_ild (cc3 c80_14) rfl ?_
        refine p_push (cc3 c80_15) ?_
        refine p_icmp (cc3 c80_18) (fun c => ?_) (fun c => ?_)
        · have h := h.1 c
          refine p_ald (cc3 c80_25) rfl ?_
          obtain ⟨g1, h⟩ := h
          obtain ⟨g2, h⟩ := h
          refine p_getp (cc3 c80_26) g1 rfl g2 ?_
          refine p_ild (cc3 c80_29) rfl ?_
          refine p_push (cc3 c80_30) ?_
          refine p_bin (cc3 c80_33) ?_
          refine p_ild (cc3 c80_34) rfl ?_
          refine p_bin (cc3 c80_35) ?_
          obtain ⟨g3, h⟩ := h
          obtain ⟨g4, h⟩ := h
          refine p_aldi (cc3 c80_36) g3 g4 rfl ?_
          refine p_lc (ls' := []) c80_37 rfl rfl ?_
          exact p_ri (cct c80_37 rfl) trivial h
        · have h := h.2 c
          refine p_lc (ls' := []) c80_21 rfl rfl ?_
          refine p_push (cct c80_21 rfl) ?_
          refine p_goto (cc3 c80_22) ?_
          exact p_ri (cct c80_37 rfl) trivial h
theorem B81_0 {ev : xV} {Q : Option Value → xM → Prop} {sz sl : Nat} {K L : Nat → Nat} {κ : Nat → Nat → Int32} {ρ : Nat → Nat → Nat} {x0 x1 : Int32} (h : ((x0 = (-1)) → Q (some (.int x1)) (Mm sz sl K L κ ρ)) ∧ (¬ (x0 = (-1)) → ((x1 = (-1)) → Q (some (.int x0)) (Mm sz sl K L κ ρ)) ∧ (¬ (x1 = (-1)) → ((x0 ≤ x1) → Q (some (.int x0)) (Mm sz sl K L κ ρ)) ∧ (¬ (x0 ≤ x1) → Q (some (.int x1)) (Mm sz sl K L κ ρ))))) : wpE (xT 81) ev Q (0, [(0, .int x0), (1, .int x1)], [], Mm sz sl K L κ ρ) := by
  refine p_ild (cc3 c81_0) rfl ?_
  refine p_push (cc3 c81_1) ?_
  refine p_icmp (cc3 c81_2) (fun c => ?_) (fun c => ?_)
  · have h := h.1 c
    refine p_lc (ls' := [(1, .int x1)]) c81_15 rfl rfl ?_
    refine p_ild (cct c81_15 rfl) rfl ?_
    refine p_goto (cc3 c81_16) ?_
    refine p_lc (ls' := []) c81_20 rfl rfl ?_
    exact p_ri (cct c81_20 rfl) trivial h
  · have h := h.2 c
    refine p_ild (cc3 c81_5) rfl ?_
    refine p_push (cc3 c81_6) ?_
    refine p_icmp (cc3 c81_7) (fun c => ?_) (fun c => ?_)
    · have h := h.1 c
      refine p_lc (ls' := [(0, .int x0)]) c81_19 rfl rfl ?_
      refine p_ild (cct c81_19 rfl) rfl ?_
      refine p_lc (ls' := []) c81_20 rfl rfl ?_
      exact p_ri (cct c81_20 rfl) trivial h
    · have h := h.2 c
      refine p_ild (cc3 c81_10) rfl ?_
      refine p_ild (cc3 c81_11) rfl ?_
      refine p_icmp (cc3 c81_12) (fun c => ?_) (fun c => ?_)
      · have h := h.1 c
        refine p_lc (ls' := [(0, .int x0)]) c81_19 rfl rfl ?_
        refine p_ild (cct c81_19 rfl) rfl ?_
        refine p_lc (ls' := []) c81_20 rfl rfl ?_
        exact p_ri (cct c81_20 rfl) trivial h
      · have h := h.2 c
        refine p_lc (ls' := [(1, .int x1)]) c81_15 rfl rfl ?_
        refine p_ild (cct c81_15 rfl) rfl ?_
        refine p_goto (cc3 c81_16) ?_
        refine p_lc (ls' := []) c81_20 rfl rfl ?_
        exact p_ri (cct c81_20 rfl) trivial h
theorem B82_0 {ev : xV} {Q : Option Value → xM → Prop} {sz sl : Nat} {K L : Nat → Nat} {κ : Nat → Nat → Int32} {ρ : Nat → Nat → Nat} {x1 : Int32} {a0 : Nat} (h : (K a0 = 4) ∧ (¬ ρ a0 6 = 0) ∧ (¬ ρ a0 7 = 0) ∧ (K (ρ a0 7) = 6) ∧ (¬ ρ a0 5 = 0) ∧ (K (ρ a0 5) = 3) ∧ ((K (ρ a0 6) = 1) ∧ ∃ r κ' ρ', ev 56 [.ref (ρ a0 6), .int ((κ a0 2) + (x1 * (κ (ρ a0 7) 1))), .int (κ (ρ a0 5) 7)] (Mm sz sl K L κ ρ) (some (.int r)) (Mm sz sl K L κ' ρ') ∧ wpE (xT 82) ev Q (28, [(0, .ref a0), (1, .int x1)], [.int r], Mm sz sl K L κ' ρ'))) : wpE (xT 82) ev Q (0, [(0, .ref a0), (1, .int x1)], [], Mm sz sl K L κ ρ) := by
  refine p_ald (cc3 c82_0) rfl ?_
  obtain ⟨g1, h⟩ := h
  obtain ⟨g2, h⟩ := h
  refine p_getp (cc3 c82_1) g1 rfl g2 ?_
  refine p_ald (cc3 c82_4) rfl ?_
  refine p_geti (cc3 c82_5) g1 rfl ?_
  refine p_ild (cc3 c82_8) rfl ?_
  refine p_ald (cc3 c82_9) rfl ?_
  obtain ⟨g3, h⟩ := h
  refine p_getp (cc3 c82_10) g1 rfl g3 ?_
  obtain ⟨g4, h⟩ := h
  refine p_geti (cc3 c82_13) g4 rfl ?_
  refine p_bin (cc3 c82_16) ?_
  refine p_bin (cc3 c82_17) ?_
  refine p_ald (cc3 c82_18) rfl ?_
  obtain ⟨g5, h⟩ := h
  refine p_getp (cc3 c82_19) g1 rfl g5 ?_
  obtain ⟨g6, h⟩ := h
  refine p_geti (cc3 c82_22) g6 rfl ?_
  obtain ⟨g7, h⟩ := h
  obtain ⟨r, κ', ρ', he, h⟩ := h
  exact p_callV (cc3 c82_25) (Nat.le_of_ble_eq_true rfl) rfl rfl (Nat.le_of_ble_eq_true rfl) g7 he h
theorem B82_28 {ev : xV} {Q : Option Value → xM → Prop} {sz sl : Nat} {K L : Nat → Nat} {κ : Nat → Nat → Int32} {ρ : Nat → Nat → Nat} {x1 s0 : Int32} {a0 : Nat} (h : ((s0 = 0 ∨ s0 = 1) ∧ Q (some (.int s0)) (Mm sz sl K L κ ρ))) : wpE (xT 82) ev Q (28, [(0, .ref a0), (1, .int x1)], [.int s0], Mm sz sl K L κ ρ) := by
  exact p_ri (cc3 c82_28) h.1 h.2
theorem B83_0 {ev : xV} {Q : Option Value → xM → Prop} {sz sl : Nat} {K L : Nat → Nat} {κ : Nat → Nat → Int32} {ρ : Nat → Nat → Nat} {a0 a1 : Nat} (h : wpE (xT 83) ev Q (2, [(0, .ref a0), (1, .ref a1), (2, .int 0)], [], Mm sz sl K L κ ρ)) : wpE (xT 83) ev Q (0, [(0, .ref a0), (1, .ref a1)], [], Mm sz sl K L κ ρ) := by
  refine p_push (cc3 c83_0) ?_
  refine p_ist (ls' := [(2, .int 0), (0, .ref a0), (1, .ref a1)]) (cc3 c83_1) (by decide) rfl ?_
  exact p_lc (ls' := [(0, .ref a0), (1, .ref a1), (2, .int 0)]) c83_2 rfl rfl h
theorem B83_2 {ev : xV} {Q : Option Value → xM → Prop} {sz sl : Nat} {K L : Nat → Nat} {κ : Nat → Nat → Int32} {ρ : Nat → Nat → Nat} {x2 : Int32} {a0 a1 : Nat} (h : ((3 ≤ x2) → (K a1 = 5) ∧ (K a0 = 4) ∧ (¬ ρ a0 7 = 0) ∧ (K (ρ a0 7) = 6) ∧ wpE (xT 83) ev Q (59, [(0, .ref a0), (1, .ref a1), (2, .int x2), (3, .int 0)], [], Mm sz sl K L (U (U κ a1 5 x2) a1 2 (((U κ a1 5 x2) a0 2) + (x2 * ((U κ a1 5 x2) (ρ a0 7) 1)))) ρ)) ∧ (¬ (3 ≤ x2) → ((K a0 = 4) ∧ ∃ r κ' ρ', ev 82 [.ref a0, .int x2] (Mm sz sl K L κ ρ) (some (.int r)) (Mm sz sl K L κ' ρ') ∧ wpE (xT 83) ev Q (12, [(0, .ref a0), (1, .ref a1), (2, .int x2)], [.int r], Mm sz sl K L κ' ρ')))) : wpE (xT 83) ev Q (2, [(0, .ref a0), (1, .ref a1), (2, .int x2)], [], Mm sz sl K L κ ρ) := by
  refine p_ild (cct c83_2 rfl) rfl ?_
  refine p_push (cc3 c83_3) ?_
  refine p_icmp (cc3 c83_4) (fun c => ?_) (fun c => ?_)
  · have h := h.1 c
    refine p_ald (cct c83_34 rfl) rfl ?_
    refine p_ild (cc3 c83_35) rfl ?_
    obtain ⟨g1, h⟩ := h
    refine p_puti (cc3 c83_36) g1 mm_xpi ?_
    refine p_ald (cc3 c83_39) rfl ?_
    refine p_ald (cc3 c83_40) rfl ?_
    obtain ⟨g2, h⟩ := h
    refine p_geti (cc3 c83_41) g2 rfl ?_
    refine p_ild (cc3 c83_44) rfl ?_
    refine p_ald (cc3 c83_45) rfl ?_
    obtain ⟨g3, h⟩ := h
    refine p_getp (cc3 c83_46) g2 rfl g3 ?_
    obtain ⟨g4, h⟩ := h
    refine p_geti (cc3 c83_49) g4 rfl ?_
    refine p_bin (cc3 c83_52) ?_
    refine p_bin (cc3 c83_53) ?_
    refine p_puti (cc3 c83_54) g1 mm_xpi ?_
    refine p_push (cc3 c83_57) ?_
    refine p_ist (ls' := [(3, .int 0), (0, .ref a0), (1, .ref a1), (2, .int x2)]) (cc3 c83_58) (by decide) rfl ?_
    exact p_lc (ls' := [(0, .ref a0), (1, .ref a1), (2, .int x2), (3, .int 0)]) c83_59 rfl rfl h
  · have h := h.2 c
    refine p_ald (cc3 c83_7) rfl ?_
    refine p_ild (cc3 c83_8) rfl ?_
    obtain ⟨g1, h⟩ := h
    obtain ⟨r, κ', ρ', he, h⟩ := h
    exact p_callV (cc3 c83_9) (Nat.le_of_ble_eq_true rfl) rfl rfl (Nat.le_of_ble_eq_true rfl) g1 he h
theorem B83_12 {ev : xV} {Q : Option Value → xM → Prop} {sz sl : Nat} {K L : Nat → Nat} {κ : Nat → Nat → Int32} {ρ : Nat → Nat → Nat} {x2 s0 : Int32} {a0 a1 : Nat} (h : ((s0 = 0) → wpE (xT 83) ev Q (2, [(0, .ref a0), (1, .ref a1), (2, .int (x2 + 1))], [], Mm sz sl K L κ ρ)) ∧ (¬ (s0 = 0) → ((K a0 = 4) ∧ ∃ r κ' ρ', ev 80 [.ref a0, .int 0, .int x2] (Mm sz sl K L κ ρ) (some (.int r)) (Mm sz sl K L κ' ρ') ∧ wpE (xT 83) ev Q (21, [(0, .ref a0), (1, .ref a1), (2, .int x2)], [.int r], Mm sz sl K L κ' ρ')))) : wpE (xT 83) ev Q (12, [(0, .ref a0), (1, .ref a1), (2, .int x2)], [.int s0], Mm sz sl K L κ ρ) := by
  refine p_if (cc3 c83_12) (fun c => ?_) (fun c => ?_)
  · have h := h.1 c
    refine p_iinc (y := x2 + 1) (ls' := [(2, .int (x2 + 1)), (0, .ref a0), (1, .ref a1)]) (cct c83_28 rfl) (by decide) rfl rfl rfl ?_
    refine p_goto (cc3 c83_31) ?_
    exact p_lc (ls' := [(0, .ref a0), (1, .ref a1), (2, .int (x2 + 1))]) c83_2 rfl rfl h
  · have h := h.2 c
    refine p_ald (cc3 c83_15) rfl ?_
    refine p_push (cc3 c83_16) ?_
    refine p_ild (cc3 c83_17) rfl ?_
    obtain ⟨g1, h⟩ := h
    obtain ⟨r, κ', ρ', he, h⟩ := h
    exact p_callV (cc3 c83_18) (Nat.le_of_ble_eq_true rfl) rfl rfl (Nat.le_of_ble_eq_true rfl) g1 he h
theorem B83_21 {ev : xV} {Q : Option Value → xM → Prop} {sz sl : Nat} {K L : Nat → Nat} {κ : Nat → Nat → Int32} {ρ : Nat → Nat → Nat} {x2 s0 : Int32} {a0 a1 : Nat} (h : (K a0 = 4) ∧ ((s0 = (κ a0 4)) → (K a1 = 5) ∧ (¬ ρ a0 7 = 0) ∧ (K (ρ a0 7) = 6) ∧ wpE (xT 83) ev Q (59, [(0, .ref a0), (1, .ref a1), (2, .int x2), (3, .int 0)], [], Mm sz sl K L (U (U κ a1 5 x2) a1 2 (((U κ a1 5 x2) a0 2) + (x2 * ((U κ a1 5 x2) (ρ a0 7) 1)))) ρ)) ∧ (¬ (s0 = (κ a0 4)) → wpE (xT 83) ev Q (2, [(0, .ref a0), (1, .ref a1), (2, .int (x2 + 1))], [], Mm sz sl K L κ ρ))) : wpE (xT 83) ev Q (21, [(0, .ref a0), (1, .ref a1), (2, .int x2)], [.int s0], Mm sz sl K L κ ρ) := by
  refine p_ald (cc3 c83_21) rfl ?_
  obtain ⟨g1, h⟩ := h
  refine p_geti (cc3 c83_22) g1 rfl ?_
  refine p_icmp (cc3 c83_25) (fun c => ?_) (fun c => ?_)
  · have h := h.1 c
    refine p_ald (cct c83_34 rfl) rfl ?_
    refine p_ild (cc3 c83_35) rfl ?_
    obtain ⟨g2, h⟩ := h
    refine p_puti (cc3 c83_36) g2 mm_xpi ?_
    refine p_ald (cc3 c83_39) rfl ?_
    refine p_ald (cc3 c83_40) rfl ?_
    refine p_geti (cc3 c83_41) g1 rfl ?_
    refine p_ild (cc3 c83_44) rfl ?_
    refine p_ald (cc3 c83_45) rfl ?_
    obtain ⟨g3, h⟩ := h
    refine p_getp (cc3 c83_46) g1 rfl g3 ?_
    obtain ⟨g4, h⟩ := h
    refine p_geti (cc3 c83_49) g4 rfl ?_
    refine p_bin (cc3 c83_52) ?_
    refine p_bin (cc3 c83_53) ?_
    refine p_puti (cc3 c83_54) g2 mm_xpi ?_
    refine p_push (cc3 c83_57) ?_
    refine p_ist (ls' := [(3, .int 0), (0, .ref a0), (1, .ref a1), (2, .int x2)]) (cc3 c83_58) (by decide) rfl ?_
    exact p_lc (ls' := [(0, .ref a0), (1, .ref a1), (2, .int x2), (3, .int 0)]) c83_59 rfl rfl h
  · have h := h.2 c
    refine p_iinc (y := x2 + 1) (ls' := [(2, .int (x2 + 1)), (0, .ref a0), (1, .ref a1)]) (cct c83_28 rfl) (by decide) rfl rfl rfl ?_
    refine p_goto (cc3 c83_31) ?_
    exact p_lc (ls' := [(0, .ref a0), (1, .ref a1), (2, .int (x2 + 1))]) c83_2 rfl rfl h
theorem B83_59 {ev : xV} {Q : Option Value → xM → Prop} {sz sl : Nat} {K L : Nat → Nat} {κ : Nat → Nat → Int32} {ρ : Nat → Nat → Nat} {x2 x3 : Int32} {a0 a1 : Nat} (h : (K a1 = 5) ∧ (¬ ρ a1 0 = 0) ∧ (K (ρ a1 0) = 20) ∧ (((Int32.ofNat (L (ρ a1 0))) ≤ x3) → (K a0 = 4) ∧ (¬ ρ a0 7 = 0) ∧ (K (ρ a0 7) = 6) ∧ (∃ r κ' ρ', ev 77 [.ref a0, .int ((U (U κ a1 6 ((κ a0 4) - x2)) a1 3 (((U κ a1 6 ((κ a0 4) - x2)) a0 3) + (((U κ a1 6 ((κ a0 4) - x2)) a0 4) * ((U κ a1 6 ((κ a0 4) - x2)) (ρ a0 7) 1)))) a0 4)] (Mm sz sl K L (U (U κ a1 6 ((κ a0 4) - x2)) a1 3 (((U κ a1 6 ((κ a0 4) - x2)) a0 3) + (((U κ a1 6 ((κ a0 4) - x2)) a0 4) * ((U κ a1 6 ((κ a0 4) - x2)) (ρ a0 7) 1)))) ρ) (some (.int r)) (Mm sz sl K L κ' ρ') ∧ wpE (xT 83) ev Q (181, [(0, .ref a0), (1, .ref a1), (2, .int x2)], [.int r, .ref a1], Mm sz sl K L κ' ρ'))) ∧ (¬ ((Int32.ofNat (L (ρ a1 0))) ≤ x3) → ((24 ≤ x3) → (K a0 = 4) ∧ (¬ ρ a0 7 = 0) ∧ (K (ρ a0 7) = 6) ∧ (∃ r κ' ρ', ev 77 [.ref a0, .int ((U (U κ a1 6 ((κ a0 4) - x2)) a1 3 (((U κ a1 6 ((κ a0 4) - x2)) a0 3) + (((U κ a1 6 ((κ a0 4) - x2)) a0 4) * ((U κ a1 6 ((κ a0 4) - x2)) (ρ a0 7) 1)))) a0 4)] (Mm sz sl K L (U (U κ a1 6 ((κ a0 4) - x2)) a1 3 (((U κ a1 6 ((κ a0 4) - x2)) a0 3) + (((U κ a1 6 ((κ a0 4) - x2)) a0 4) * ((U κ a1 6 ((κ a0 4) - x2)) (ρ a0 7) 1)))) ρ) (some (.int r)) (Mm sz sl K L κ' ρ') ∧ wpE (xT 83) ev Q (181, [(0, .ref a0), (1, .ref a1), (2, .int x2)], [.int r, .ref a1], Mm sz sl K L κ' ρ'))) ∧ (¬ (24 ≤ x3) → (K a0 = 4) ∧ (¬ ρ a0 1 = 0) ∧ (K (ρ a0 1) = 20) ∧ (vp_in x3 (L (ρ a0 1))) ∧ (¬ ρ a0 7 = 0) ∧ (K (ρ a0 7) = 6) ∧ (vp_in x3 (L (ρ a1 0))) ∧ (¬ ρ a0 5 = 0) ∧ (K (ρ a0 5) = 3) ∧ (((((U κ (ρ a1 0) x3.toNatClampNeg ((κ (ρ a0 1) x3.toNatClampNeg) + (x2 * (κ (ρ a0 7) 1)))) (ρ a0 5) 4) - 1) ≤ x3) → wpE (xT 83) ev Q (59, [(0, .ref a0), (1, .ref a1), (2, .int x2), (3, .int (x3 + 1))], [], Mm sz sl K L (U κ (ρ a1 0) x3.toNatClampNeg ((κ (ρ a0 1) x3.toNatClampNeg) + (x2 * (κ (ρ a0 7) 1)))) ρ)) ∧ (¬ ((((U κ (ρ a1 0) x3.toNatClampNeg ((κ (ρ a0 1) x3.toNatClampNeg) + (x2 * (κ (ρ a0 7) 1)))) (ρ a0 5) 4) - 1) ≤ x3) → (¬ ρ a1 1 = 0) ∧ (∃ r κ' ρ', ev 84 [.ref a0, .int x3, .int x2] (Mm sz sl K L (U κ (ρ a1 0) x3.toNatClampNeg ((κ (ρ a0 1) x3.toNatClampNeg) + (x2 * (κ (ρ a0 7) 1)))) ρ) (some (.int r)) (Mm sz sl K L κ' ρ') ∧ wpE (xT 83) ev Q (120, [(0, .ref a0), (1, .ref a1), (2, .int x2), (3, .int x3)], [.int r, .int x3, .ref (ρ a1 1)], Mm sz sl K L κ' ρ')))))) : wpE (xT 83) ev Q (59, [(0, .ref a0), (1, .ref a1), (2, .int x2), (3, .int x3)], [], Mm sz sl K L κ ρ) := by
  refine p_ild (cct c83_59 rfl) rfl ?_
  refine p_ald (cc3 c83_60) rfl ?_
  obtain ⟨g1, h⟩ := h
  obtain ⟨g2, h⟩ := h
  refine p_getp (cc3 c83_61) g1 rfl g2 ?_
  obtain ⟨g3, h⟩ := h
  refine p_len (cc3 c83_64) g3 rfl ?_
  refine p_icmp (cc3 c83_65) (fun c => ?_) (fun c => ?_)
  · have h := h.1 c
    refine p_lc (ls' := [(0, .ref a0), (1, .ref a1), (2, .int x2)]) c83_141 rfl rfl ?_
    refine p_ald (cct c83_141 rfl) rfl ?_
    refine p_ald (cc3 c83_142) rfl ?_
    obtain ⟨g4, h⟩ := h
    refine p_geti (cc3 c83_143) g4 rfl ?_
    refine p_ild (cc3 c83_146) rfl ?_
    refine p_bin (cc3 c83_147) ?_
    refine p_puti (cc3 c83_148) g1 mm_xpi ?_
    refine p_ald (cc3 c83_151) rfl ?_
    refine p_ald (cc3 c83_152) rfl ?_
    refine p_geti (cc3 c83_153) g4 rfl ?_
    refine p_ald (cc3 c83_156) rfl ?_
    refine p_geti (cc3 c83_157) g4 rfl ?_
    refine p_ald (cc3 c83_160) rfl ?_
    obtain ⟨g5, h⟩ := h
    refine p_getp (cc3 c83_161) g4 rfl g5 ?_
    obtain ⟨g6, h⟩ := h
    refine p_geti (cc3 c83_164) g6 rfl ?_
    refine p_bin (cc3 c83_167) ?_
    refine p_bin (cc3 c83_168) ?_
    refine p_puti (cc3 c83_169) g1 mm_xpi ?_
    refine p_ald (cc3 c83_172) rfl ?_
    refine p_ald (cc3 c83_173) rfl ?_
    refine p_ald (cc3 c83_174) rfl ?_
    refine p_geti (cc3 c83_175) g4 rfl ?_
    obtain ⟨r, κ', ρ', he, h⟩ := h
    exact p_callV (cc3 c83_178) (Nat.le_of_ble_eq_true rfl) rfl rfl (Nat.le_of_ble_eq_true rfl) g4 he h
  · have h := h.2 c
    refine p_ild (cc3 c83_68) rfl ?_
    refine p_push (cc3 c83_69) ?_
    refine p_icmp (cc3 c83_71) (fun c => ?_) (fun c => ?_)
    · have h := h.1 c
      refine p_lc (ls' := [(0, .ref a0), (1, .ref a1), (2, .int x2)]) c83_141 rfl rfl ?_
      refine p_ald (cct c83_141 rfl) rfl ?_
      refine p_ald (cc3 c83_142) rfl ?_
      obtain ⟨g4, h⟩ := h
      refine p_geti (cc3 c83_143) g4 rfl ?_
      refine p_ild (cc3 c83_146) rfl ?_
      refine p_bin (cc3 c83_147) ?_
      refine p_puti (cc3 c83_148) g1 mm_xpi ?_
      refine p_ald (cc3 c83_151) rfl ?_
      refine p_ald (cc3 c83_152) rfl ?_
      refine p_geti (cc3 c83_153) g4 rfl ?_
      refine p_ald (cc3 c83_156) rfl ?_
      refine p_geti (cc3 c83_157) g4 rfl ?_
      refine p_ald (cc3 c83_160) rfl ?_
      obtain ⟨g5, h⟩ := h
      refine p_getp (cc3 c83_161) g4 rfl g5 ?_
      obtain ⟨g6, h⟩ := h
      refine p_geti (cc3 c83_164) g6 rfl ?_
      refine p_bin (cc3 c83_167) ?_
      refine p_bin (cc3 c83_168) ?_
      refine p_puti (cc3 c83_169) g1 mm_xpi ?_
      refine p_ald (cc3 c83_172) rfl ?_
      refine p_ald (cc3 c83_173) rfl ?_
      refine p_ald (cc3 c83_174) rfl ?_
      refine p_geti (cc3 c83_175) g4 rfl ?_
      obtain ⟨r, κ', ρ', he, h⟩ := h
      exact p_callV (cc3 c83_178) (Nat.le_of_ble_eq_true rfl) rfl rfl (Nat.le_of_ble_eq_true rfl) g4 he h
    · have h := h.2 c
      refine p_ald (cc3 c83_74) rfl ?_
      refine p_getp (cc3 c83_75) g1 rfl g2 ?_
      refine p_ild (cc3 c83_78) rfl ?_
      refine p_ald (cc3 c83_79) rfl ?_
      obtain ⟨g4, h⟩ := h
      obtain ⟨g5, h⟩ := h
      refine p_getp (cc3 c83_80) g4 rfl g5 ?_
      refine p_ild (cc3 c83_83) rfl ?_
      obtain ⟨g6, h⟩ := h
      obtain ⟨g7, h⟩ := h
      refine p_aldi (cc3 c83_84) g6 g7 rfl ?_
      refine p_ild (cc3 c83_85) rfl ?_
      refine p_ald (cc3 c83_86) rfl ?_
      obtain ⟨g8, h⟩ := h
      refine p_getp (cc3 c83_87) g4 rfl g8 ?_
      obtain ⟨g9, h⟩ := h
      refine p_geti (cc3 c83_90) g9 rfl ?_
      refine p_bin (cc3 c83_93) ?_
      refine p_bin (cc3 c83_94) ?_
      obtain ⟨g10, h⟩ := h
      refine p_asti (cc3 c83_95) g3 g10 mm_xpi ?_
      refine p_ild (cc3 c83_96) rfl ?_
      refine p_ald (cc3 c83_97) rfl ?_
      obtain ⟨g11, h⟩ := h
      refine p_getp (cc3 c83_98) g4 rfl g11 ?_
      obtain ⟨g12, h⟩ := h
      refine p_geti (cc3 c83_101) g12 rfl ?_
      refine p_push (cc3 c83_104) ?_
      refine p_bin (cc3 c83_105) ?_
      refine p_icmp (cc3 c83_106) (fun c => ?_) (fun c => ?_)
      · have h := h.1 c
        refine p_iinc (y := x3 + 1) (ls' := [(3, .int (x3 + 1)), (0, .ref a0), (1, .ref a1), (2, .int x2)]) (cct c83_135 rfl) (by decide) rfl rfl rfl ?_
        refine p_goto (cc3 c83_138) ?_
        exact p_lc (ls' := [(0, .ref a0), (1, .ref a1), (2, .int x2), (3, .int (x3 + 1))]) c83_59 rfl rfl h
      · have h := h.2 c
        refine p_ald (cc3 c83_109) rfl ?_
        obtain ⟨g13, h⟩ := h
        refine p_getp (cc3 c83_110) g1 rfl g13 ?_
        refine p_ild (cc3 c83_113) rfl ?_
        refine p_ald (cc3 c83_114) rfl ?_
        refine p_ild (cc3 c83_115) rfl ?_
        refine p_ild (cc3 c83_116) rfl ?_
        obtain ⟨r, κ', ρ', he, h⟩ := h
        exact p_callV (cc3 c83_117) (Nat.le_of_ble_eq_true rfl) rfl rfl (Nat.le_of_ble_eq_true rfl) g4 he h
theorem B83_120 {ev : xV} {Q : Option Value → xM → Prop} {sz sl : Nat} {K L : Nat → Nat} {κ : Nat → Nat → Int32} {ρ : Nat → Nat → Nat} {x2 x3 s0 s1 : Int32} {a0 a1 b2 : Nat} (h : (K b2 = 20) ∧ (vp_in s1 (L b2)) ∧ (K a1 = 5) ∧ (¬ ρ a1 1 = 0) ∧ (K (ρ a1 1) = 20) ∧ (vp_in x3 (L (ρ a1 1))) ∧ ((K a0 = 4) ∧ ∃ r κ' ρ', ev 75 [.ref a0, .int x3, .int ((U κ b2 s1.toNatClampNeg s0) (ρ a1 1) x3.toNatClampNeg)] (Mm sz sl K L (U κ b2 s1.toNatClampNeg s0) ρ) (some (.int r)) (Mm sz sl K L κ' ρ') ∧ wpE (xT 83) ev Q (133, [(0, .ref a0), (1, .ref a1), (2, .int x2), (3, .int x3)], [.int r, .int x2], Mm sz sl K L κ' ρ'))) : wpE (xT 83) ev Q (120, [(0, .ref a0), (1, .ref a1), (2, .int x2), (3, .int x3)], [.int s0, .int s1, .ref b2], Mm sz sl K L κ ρ) := by
  obtain ⟨g1, h⟩ := h
  obtain ⟨g2, h⟩ := h
  refine p_asti (cc3 c83_120) g1 g2 mm_xpi ?_
  refine p_ild (cc3 c83_121) rfl ?_
  refine p_ald (cc3 c83_122) rfl ?_
  refine p_ild (cc3 c83_123) rfl ?_
  refine p_ald (cc3 c83_124) rfl ?_
  obtain ⟨g3, h⟩ := h
  obtain ⟨g4, h⟩ := h
  refine p_getp (cc3 c83_125) g3 rfl g4 ?_
  refine p_ild (cc3 c83_128) rfl ?_
  obtain ⟨g5, h⟩ := h
  obtain ⟨g6, h⟩ := h
  refine p_aldi (cc3 c83_129) g5 g6 rfl ?_
  obtain ⟨g7, h⟩ := h
  obtain ⟨r, κ', ρ', he, h⟩ := h
  exact p_callV (cc3 c83_130) (Nat.le_of_ble_eq_true rfl) rfl rfl (Nat.le_of_ble_eq_true rfl) g7 he h
theorem B83_133 {ev : xV} {Q : Option Value → xM → Prop} {sz sl : Nat} {K L : Nat → Nat} {κ : Nat → Nat → Int32} {ρ : Nat → Nat → Nat} {x2 x3 s0 s1 : Int32} {a0 a1 : Nat} (h : wpE (xT 83) ev Q (59, [(0, .ref a0), (1, .ref a1), (2, .int (s1 + s0)), (3, .int (x3 + 1))], [], Mm sz sl K L κ ρ)) : wpE (xT 83) ev Q (133, [(0, .ref a0), (1, .ref a1), (2, .int x2), (3, .int x3)], [.int s0, .int s1], Mm sz sl K L κ ρ) := by
  refine p_bin (cc3 c83_133) ?_
  refine p_ist (ls' := [(2, .int (s1 + s0)), (0, .ref a0), (1, .ref a1), (3, .int x3)]) (cc3 c83_134) (by decide) rfl ?_
  refine p_lc (ls' := [(0, .ref a0), (1, .ref a1), (2, .int (s1 + s0)), (3, .int x3)]) c83_135 rfl rfl ?_
  refine p_iinc (y := x3 + 1) (ls' := [(3, .int (x3 + 1)), (0, .ref a0), (1, .ref a1), (2, .int (s1 + s0))]) (cct c83_135 rfl) (by decide) rfl rfl rfl ?_
  refine p_goto (cc3 c83_138) ?_
  exact p_lc (ls' := [(0, .ref a0), (1, .ref a1), (2, .int (s1 + s0)), (3, .int (x3 + 1))]) c83_59 rfl rfl h
theorem B83_181 {ev : xV} {Q : Option Value → xM → Prop} {sz sl : Nat} {K L : Nat → Nat} {κ : Nat → Nat → Int32} {ρ : Nat → Nat → Nat} {x2 s0 : Int32} {a0 a1 b1 : Nat} (h : (K b1 = 5) ∧ Q none (Mm sz sl K L (U κ b1 4 s0) ρ)) : wpE (xT 83) ev Q (181, [(0, .ref a0), (1, .ref a1), (2, .int x2)], [.int s0, .ref b1], Mm sz sl K L κ ρ) := by
  obtain ⟨g1, h⟩ := h
  refine p_puti (cc3 c83_181) g1 mm_xpi ?_
  exact p_rv (cc3 c83_184) h
theorem B84_0 {ev : xV} {Q : Option Value → xM → Prop} {sz sl : Nat} {K L : Nat → Nat} {κ : Nat → Nat → Int32} {ρ : Nat → Nat → Nat} {x1 x2 : Int32} {a0 : Nat} (h : wpE (xT 84) ev Q (2, [(0, .ref a0), (1, .int x1), (2, .int x2), (3, .int 1)], [], Mm sz sl K L κ ρ)) : wpE (xT 84) ev Q (0, [(0, .ref a0), (1, .int x1), (2, .int x2)], [], Mm sz sl K L κ ρ) := by
  refine p_push (cc3 c84_0) ?_
  refine p_ist (ls' := [(3, .int 1), (0, .ref a0), (1, .int x1), (2, .int x2)]) (cc3 c84_1) (by decide) rfl ?_
  exact p_lc (ls' := [(0, .ref a0), (1, .int x1), (2, .int x2), (3, .int 1)]) c84_2 rfl rfl h
theorem B84_2 {ev : xV} {Q : Option Value → xM → Prop} {sz sl : Nat} {K L : Nat → Nat} {κ : Nat → Nat → Int32} {ρ : Nat → Nat → Nat} {x1 x2 x3 : Int32} {a0 : Nat} (h : ((4 ≤ x3) → Q (some (.int 4)) (Mm sz sl K L κ ρ)) ∧ (¬ (4 ≤ x3) → ((K a0 = 4) ∧ ∃ r κ' ρ', ev 79 [.ref a0, .int x1, .int x3] (Mm sz sl K L κ ρ) (some (.int r)) (Mm sz sl K L κ' ρ') ∧ wpE (xT 84) ev Q (13, [(0, .ref a0), (1, .int x1), (2, .int x2), (3, .int x3)], [.int r], Mm sz sl K L κ' ρ')))) : wpE (xT 84) ev Q (2, [(0, .ref a0), (1, .int x1), (2, .int x2), (3, .int x3)], [], Mm sz sl K L κ ρ) := by
  refine p_ild (cct c84_2 rfl) rfl ?_
  refine p_push (cc3 c84_3) ?_
  refine p_icmp (cc3 c84_4) (fun c => ?_) (fun c => ?_)
  · have h := h.1 c
    refine p_push (cc3 c84_46) ?_
    exact p_ri (cc3 c84_47) trivial h
  · have h := h.2 c
    refine p_ald (cc3 c84_7) rfl ?_
    refine p_ild (cc3 c84_8) rfl ?_
    refine p_ild (cc3 c84_9) rfl ?_
    obtain ⟨g1, h⟩ := h
    obtain ⟨r, κ', ρ', he, h⟩ := h
    exact p_callV (cc3 c84_10) (Nat.le_of_ble_eq_true rfl) rfl rfl (Nat.le_of_ble_eq_true rfl) g1 he h
theorem B84_13 {ev : xV} {Q : Option Value → xM → Prop} {sz sl : Nat} {K L : Nat → Nat} {κ : Nat → Nat → Int32} {ρ : Nat → Nat → Nat} {x1 x2 x3 s0 : Int32} {a0 : Nat} (h : ((s0 = 0) → wpE (xT 84) ev Q (2, [(0, .ref a0), (1, .int x1), (2, .int x2), (3, .int (x3 + 1))], [], Mm sz sl K L κ ρ)) ∧ (¬ (s0 = 0) → ((K a0 = 4) ∧ ∃ r κ' ρ', ev 75 [.ref a0, .int x1, .int x3] (Mm sz sl K L κ ρ) (some (.int r)) (Mm sz sl K L κ' ρ') ∧ wpE (xT 84) ev Q (27, [(0, .ref a0), (1, .int x1), (2, .int x2), (3, .int x3)], [.int r, .int x2, .int (x1 + 1), .ref a0], Mm sz sl K L κ' ρ')))) : wpE (xT 84) ev Q (13, [(0, .ref a0), (1, .int x1), (2, .int x2), (3, .int x3)], [.int s0], Mm sz sl K L κ ρ) := by
  refine p_if (cc3 c84_13) (fun c => ?_) (fun c => ?_)
  · have h := h.1 c
    refine p_iinc (y := x3 + 1) (ls' := [(3, .int (x3 + 1)), (0, .ref a0), (1, .int x1), (2, .int x2)]) (cct c84_40 rfl) (by decide) rfl rfl rfl ?_
    refine p_goto (cc3 c84_43) ?_
    exact p_lc (ls' := [(0, .ref a0), (1, .int x1), (2, .int x2), (3, .int (x3 + 1))]) c84_2 rfl rfl h
  · have h := h.2 c
    refine p_ald (cc3 c84_16) rfl ?_
    refine p_ild (cc3 c84_17) rfl ?_
    refine p_push (cc3 c84_18) ?_
    refine p_bin (cc3 c84_19) ?_
    refine p_ild (cc3 c84_20) rfl ?_
    refine p_ald (cc3 c84_21) rfl ?_
    refine p_ild (cc3 c84_22) rfl ?_
    refine p_ild (cc3 c84_23) rfl ?_
    obtain ⟨g1, h⟩ := h
    obtain ⟨r, κ', ρ', he, h⟩ := h
    exact p_callV (cc3 c84_24) (Nat.le_of_ble_eq_true rfl) rfl rfl (Nat.le_of_ble_eq_true rfl) g1 he h
theorem B84_27 {ev : xV} {Q : Option Value → xM → Prop} {sz sl : Nat} {K L : Nat → Nat} {κ : Nat → Nat → Int32} {ρ : Nat → Nat → Nat} {x1 x2 x3 s0 s1 s2 : Int32} {a0 b3 : Nat} (h : ((K b3 = 4) ∧ ∃ r κ' ρ', ev 80 [.ref b3, .int s2, .int (s1 + s0)] (Mm sz sl K L κ ρ) (some (.int r)) (Mm sz sl K L κ' ρ') ∧ wpE (xT 84) ev Q (31, [(0, .ref a0), (1, .int x1), (2, .int x2), (3, .int x3)], [.int r], Mm sz sl K L κ' ρ'))) : wpE (xT 84) ev Q (27, [(0, .ref a0), (1, .int x1), (2, .int x2), (3, .int x3)], [.int s0, .int s1, .int s2, .ref b3], Mm sz sl K L κ ρ) := by
  refine p_bin (cc3 c84_27) ?_
  obtain ⟨g1, h⟩ := h
  obtain ⟨r, κ', ρ', he, h⟩ := h
  exact p_callV (cc3 c84_28) (Nat.le_of_ble_eq_true rfl) rfl rfl (Nat.le_of_ble_eq_true rfl) g1 he h
theorem B84_31 {ev : xV} {Q : Option Value → xM → Prop} {sz sl : Nat} {K L : Nat → Nat} {κ : Nat → Nat → Int32} {ρ : Nat → Nat → Nat} {x1 x2 x3 s0 : Int32} {a0 : Nat} (h : (K a0 = 4) ∧ ((s0 = (κ a0 4)) → Q (some (.int x3)) (Mm sz sl K L κ ρ)) ∧ (¬ (s0 = (κ a0 4)) → wpE (xT 84) ev Q (2, [(0, .ref a0), (1, .int x1), (2, .int x2), (3, .int (x3 + 1))], [], Mm sz sl K L κ ρ))) : wpE (xT 84) ev Q (31, [(0, .ref a0), (1, .int x1), (2, .int x2), (3, .int x3)], [.int s0], Mm sz sl K L κ ρ) := by
  refine p_ald (cc3 c84_31) rfl ?_
  obtain ⟨g1, h⟩ := h
  refine p_geti (cc3 c84_32) g1 rfl ?_
  refine p_icmp (cc3 c84_35) (fun c => ?_) (fun c => ?_)
  · have h := h.1 c
    refine p_ild (cc3 c84_38) rfl ?_
    exact p_ri (cc3 c84_39) trivial h
  · have h := h.2 c
    refine p_iinc (y := x3 + 1) (ls' := [(3, .int (x3 + 1)), (0, .ref a0), (1, .int x1), (2, .int x2)]) (cct c84_40 rfl) (by decide) rfl rfl rfl ?_
    refine p_goto (cc3 c84_43) ?_
    exact p_lc (ls' := [(0, .ref a0), (1, .int x1), (2, .int x2), (3, .int (x3 + 1))]) c84_2 rfl rfl h
